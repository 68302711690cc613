theorem dX0_init_0 : decode cX0_init 0 = .ok (.aload_n 0, 1) := by decide +kernel
theorem dX0_init_1 : decode cX0_init 1 = .ok (.invokespecial 3, 3) := by decide +kernel
theorem dX0_init_4 : decode cX0_init 4 = .ok (.aload_n 0, 1) := by decide +kernel
theorem dX0_init_5 : decode cX0_init 5 = .ok (.bipush 8, 2) := by decide +kernel
theorem dX0_init_7 : decode cX0_init 7 = .ok (.newarray .int, 2) := by decide +kernel
theorem dX0_init_9 : decode cX0_init 9 = .ok (.putfield 9, 3) := by decide +kernel
theorem dX0_init_12 : decode cX0_init 12 = .ok (.aload_n 0, 1) := by decide +kernel
theorem dX0_init_13 : decode cX0_init 13 = .ok (.bipush 8, 2) := by decide +kernel
theorem dX0_init_15 : decode cX0_init 15 = .ok (.newarray .int, 2) := by decide +kernel
theorem dX0_init_17 : decode cX0_init 17 = .ok (.putfield 15, 3) := by decide +kernel
theorem dX0_init_20 : decode cX0_init 20 = .ok (.aload_n 0, 1) := by decide +kernel
theorem dX0_init_21 : decode cX0_init 21 = .ok (.bipush 8, 2) := by decide +kernel
theorem dX0_init_23 : decode cX0_init 23 = .ok (.newarray .int, 2) := by decide +kernel
theorem dX0_init_25 : decode cX0_init 25 = .ok (.putfield 18, 3) := by decide +kernel
theorem dX0_init_28 : decode cX0_init 28 = .ok (.aload_n 0, 1) := by decide +kernel
theorem dX0_init_29 : decode cX0_init 29 = .ok (.bipush 8, 2) := by decide +kernel
theorem dX0_init_31 : decode cX0_init 31 = .ok (.newarray .int, 2) := by decide +kernel
theorem dX0_init_33 : decode cX0_init 33 = .ok (.putfield 21, 3) := by decide +kernel
theorem dX0_init_36 : decode cX0_init 36 = .ok (.aload_n 0, 1) := by decide +kernel
theorem dX0_init_37 : decode cX0_init 37 = .ok (.bipush 8, 2) := by decide +kernel
theorem dX0_init_39 : decode cX0_init 39 = .ok (.newarray .int, 2) := by decide +kernel
theorem dX0_init_41 : decode cX0_init 41 = .ok (.putfield 24, 3) := by decide +kernel
theorem dX0_init_44 : decode cX0_init 44 = .ok (.aload_n 0, 1) := by decide +kernel
theorem dX0_init_45 : decode cX0_init 45 = .ok (.iconst (-1), 1) := by decide +kernel
theorem dX0_init_46 : decode cX0_init 46 = .ok (.putfield 27, 3) := by decide +kernel
theorem dX0_init_49 : decode cX0_init 49 = .ok (.aload_n 0, 1) := by decide +kernel
theorem dX0_init_50 : decode cX0_init 50 = .ok (.iconst (-1), 1) := by decide +kernel
theorem dX0_init_51 : decode cX0_init 51 = .ok (.putfield 31, 3) := by decide +kernel
theorem dX0_init_54 : decode cX0_init 54 = .ok (.return_, 1) := by decide +kernel
theorem dX0_take_0 : decode cX0_take 0 = .ok (.aload_n 0, 1) := by decide +kernel
theorem dX0_take_1 : decode cX0_take 1 = .ok (.getfield 31, 3) := by decide +kernel
theorem dX0_take_4 : decode cX0_take 4 = .ok (.iconst (-1), 1) := by decide +kernel
theorem dX0_take_5 : decode cX0_take 5 = .ok (.if_icmp .ne 19, 3) := by decide +kernel
theorem dX0_take_8 : decode cX0_take 8 = .ok (.aload_n 0, 1) := by decide +kernel
theorem dX0_take_9 : decode cX0_take 9 = .ok (.iload_n 1, 1) := by decide +kernel
theorem dX0_take_10 : decode cX0_take 10 = .ok (.invokevirtual 34, 3) := by decide +kernel
theorem dX0_take_13 : decode cX0_take 13 = .ok (.ifCond .ne 11, 3) := by decide +kernel
theorem dX0_take_16 : decode cX0_take 16 = .ok (.aload_n 0, 1) := by decide +kernel
theorem dX0_take_17 : decode cX0_take 17 = .ok (.aload_n 0, 1) := by decide +kernel
theorem dX0_take_18 : decode cX0_take 18 = .ok (.getfield 38, 3) := by decide +kernel
theorem dX0_take_21 : decode cX0_take 21 = .ok (.putfield 31, 3) := by decide +kernel
theorem dX0_take_24 : decode cX0_take 24 = .ok (.aload_n 0, 1) := by decide +kernel
theorem dX0_take_25 : decode cX0_take 25 = .ok (.dup, 1) := by decide +kernel
theorem dX0_take_26 : decode cX0_take 26 = .ok (.getfield 38, 3) := by decide +kernel
theorem dX0_take_29 : decode cX0_take 29 = .ok (.iconst 1, 1) := by decide +kernel
theorem dX0_take_30 : decode cX0_take 30 = .ok (.iadd, 1) := by decide +kernel
theorem dX0_take_31 : decode cX0_take 31 = .ok (.putfield 38, 3) := by decide +kernel
theorem dX0_take_34 : decode cX0_take 34 = .ok (.aload_n 0, 1) := by decide +kernel
theorem dX0_take_35 : decode cX0_take 35 = .ok (.getfield 41, 3) := by decide +kernel
theorem dX0_take_38 : decode cX0_take 38 = .ok (.bipush 8, 2) := by decide +kernel
theorem dX0_take_40 : decode cX0_take 40 = .ok (.if_icmp .ge 27, 3) := by decide +kernel
theorem dX0_take_43 : decode cX0_take 43 = .ok (.aload_n 0, 1) := by decide +kernel
theorem dX0_take_44 : decode cX0_take 44 = .ok (.getfield 44, 3) := by decide +kernel
theorem dX0_take_47 : decode cX0_take 47 = .ok (.iconst 4, 1) := by decide +kernel
theorem dX0_take_48 : decode cX0_take 48 = .ok (.if_icmp .ne 19, 3) := by decide +kernel
theorem dX0_take_51 : decode cX0_take 51 = .ok (.aload_n 0, 1) := by decide +kernel
theorem dX0_take_52 : decode cX0_take 52 = .ok (.getfield 24, 3) := by decide +kernel
theorem dX0_take_55 : decode cX0_take 55 = .ok (.aload_n 0, 1) := by decide +kernel
theorem dX0_take_56 : decode cX0_take 56 = .ok (.getfield 41, 3) := by decide +kernel
theorem dX0_take_59 : decode cX0_take 59 = .ok (.iaload, 1) := by decide +kernel
theorem dX0_take_60 : decode cX0_take 60 = .ok (.ifCond .eq 7, 3) := by decide +kernel
theorem dX0_take_63 : decode cX0_take 63 = .ok (.iconst 1, 1) := by decide +kernel
theorem dX0_take_64 : decode cX0_take 64 = .ok (.goto 4, 3) := by decide +kernel
theorem dX0_take_67 : decode cX0_take 67 = .ok (.iconst 0, 1) := by decide +kernel
theorem dX0_take_68 : decode cX0_take 68 = .ok (.istore_n 2, 1) := by decide +kernel
theorem dX0_take_69 : decode cX0_take 69 = .ok (.aload_n 0, 1) := by decide +kernel
theorem dX0_take_70 : decode cX0_take 70 = .ok (.aload_n 0, 1) := by decide +kernel
theorem dX0_take_71 : decode cX0_take 71 = .ok (.getfield 31, 3) := by decide +kernel
theorem dX0_take_74 : decode cX0_take 74 = .ok (.iconst (-1), 1) := by decide +kernel
theorem dX0_take_75 : decode cX0_take 75 = .ok (.if_icmp .ne 7, 3) := by decide +kernel
theorem dX0_take_78 : decode cX0_take 78 = .ok (.iload_n 2, 1) := by decide +kernel
theorem dX0_take_79 : decode cX0_take 79 = .ok (.ifCond .eq 10, 3) := by decide +kernel
theorem dX0_take_82 : decode cX0_take 82 = .ok (.aload_n 0, 1) := by decide +kernel
theorem dX0_take_83 : decode cX0_take 83 = .ok (.getfield 31, 3) := by decide +kernel
theorem dX0_take_86 : decode cX0_take 86 = .ok (.goto 7, 3) := by decide +kernel
theorem dX0_take_89 : decode cX0_take 89 = .ok (.aload_n 0, 1) := by decide +kernel
theorem dX0_take_90 : decode cX0_take 90 = .ok (.getfield 38, 3) := by decide +kernel
theorem dX0_take_93 : decode cX0_take 93 = .ok (.putfield 27, 3) := by decide +kernel
theorem dX0_take_96 : decode cX0_take 96 = .ok (.aload_n 0, 1) := by decide +kernel
theorem dX0_take_97 : decode cX0_take 97 = .ok (.aload_n 0, 1) := by decide +kernel
theorem dX0_take_98 : decode cX0_take 98 = .ok (.getfield 27, 3) := by decide +kernel
theorem dX0_take_101 : decode cX0_take 101 = .ok (.iconst (-1), 1) := by decide +kernel
theorem dX0_take_102 : decode cX0_take 102 = .ok (.if_icmp .ne 12, 3) := by decide +kernel
theorem dX0_take_105 : decode cX0_take 105 = .ok (.aload_n 0, 1) := by decide +kernel
theorem dX0_take_106 : decode cX0_take 106 = .ok (.getfield 41, 3) := by decide +kernel
theorem dX0_take_109 : decode cX0_take 109 = .ok (.iconst 1, 1) := by decide +kernel
theorem dX0_take_110 : decode cX0_take 110 = .ok (.iadd, 1) := by decide +kernel
theorem dX0_take_111 : decode cX0_take 111 = .ok (.goto 4, 3) := by decide +kernel
theorem dX0_take_114 : decode cX0_take 114 = .ok (.iconst 0, 1) := by decide +kernel
theorem dX0_take_115 : decode cX0_take 115 = .ok (.putfield 47, 3) := by decide +kernel
theorem dX0_take_118 : decode cX0_take 118 = .ok (.aload_n 0, 1) := by decide +kernel
theorem dX0_take_119 : decode cX0_take 119 = .ok (.getfield 38, 3) := by decide +kernel
theorem dX0_take_122 : decode cX0_take 122 = .ok (.ireturn, 1) := by decide +kernel
theorem dX0_clear_0 : decode cX0_clear 0 = .ok (.aload_n 0, 1) := by decide +kernel
theorem dX0_clear_1 : decode cX0_clear 1 = .ok (.getfield 38, 3) := by decide +kernel
theorem dX0_clear_4 : decode cX0_clear 4 = .ok (.istore_n 1, 1) := by decide +kernel
theorem dX0_clear_5 : decode cX0_clear 5 = .ok (.aload_n 0, 1) := by decide +kernel
theorem dX0_clear_6 : decode cX0_clear 6 = .ok (.iconst 0, 1) := by decide +kernel
theorem dX0_clear_7 : decode cX0_clear 7 = .ok (.putfield 38, 3) := by decide +kernel
theorem dX0_clear_10 : decode cX0_clear 10 = .ok (.aload_n 0, 1) := by decide +kernel
theorem dX0_clear_11 : decode cX0_clear 11 = .ok (.iconst 0, 1) := by decide +kernel
theorem dX0_clear_12 : decode cX0_clear 12 = .ok (.putfield 47, 3) := by decide +kernel
theorem dX0_clear_15 : decode cX0_clear 15 = .ok (.aload_n 0, 1) := by decide +kernel
theorem dX0_clear_16 : decode cX0_clear 16 = .ok (.iconst (-1), 1) := by decide +kernel
theorem dX0_clear_17 : decode cX0_clear 17 = .ok (.putfield 27, 3) := by decide +kernel
theorem dX0_clear_20 : decode cX0_clear 20 = .ok (.aload_n 0, 1) := by decide +kernel
theorem dX0_clear_21 : decode cX0_clear 21 = .ok (.iconst 0, 1) := by decide +kernel
theorem dX0_clear_22 : decode cX0_clear 22 = .ok (.putfield 41, 3) := by decide +kernel
theorem dX0_clear_25 : decode cX0_clear 25 = .ok (.aload_n 0, 1) := by decide +kernel
theorem dX0_clear_26 : decode cX0_clear 26 = .ok (.iconst 0, 1) := by decide +kernel
theorem dX0_clear_27 : decode cX0_clear 27 = .ok (.putfield 44, 3) := by decide +kernel
theorem dX0_clear_30 : decode cX0_clear 30 = .ok (.aload_n 0, 1) := by decide +kernel
theorem dX0_clear_31 : decode cX0_clear 31 = .ok (.iconst (-1), 1) := by decide +kernel
theorem dX0_clear_32 : decode cX0_clear 32 = .ok (.putfield 31, 3) := by decide +kernel
theorem dX0_clear_35 : decode cX0_clear 35 = .ok (.iload_n 1, 1) := by decide +kernel
theorem dX0_clear_36 : decode cX0_clear 36 = .ok (.ireturn, 1) := by decide +kernel
theorem dX0_goesOn_0 : decode cX0_goesOn 0 = .ok (.aload_n 0, 1) := by decide +kernel
theorem dX0_goesOn_1 : decode cX0_goesOn 1 = .ok (.getfield 41, 3) := by decide +kernel
theorem dX0_goesOn_4 : decode cX0_goesOn 4 = .ok (.bipush 8, 2) := by decide +kernel
theorem dX0_goesOn_6 : decode cX0_goesOn 6 = .ok (.if_icmp .lt 5, 3) := by decide +kernel
theorem dX0_goesOn_9 : decode cX0_goesOn 9 = .ok (.iconst 0, 1) := by decide +kernel
theorem dX0_goesOn_10 : decode cX0_goesOn 10 = .ok (.ireturn, 1) := by decide +kernel
theorem dX0_goesOn_11 : decode cX0_goesOn 11 = .ok (.aload_n 0, 1) := by decide +kernel
theorem dX0_goesOn_12 : decode cX0_goesOn 12 = .ok (.getfield 44, 3) := by decide +kernel
theorem dX0_goesOn_15 : decode cX0_goesOn 15 = .ok (.tableswitch 113 0 3 #[29, 52, 67, 97], 29) := by decide +kernel
theorem dX0_goesOn_44 : decode cX0_goesOn 44 = .ok (.aload_n 0, 1) := by decide +kernel
theorem dX0_goesOn_45 : decode cX0_goesOn 45 = .ok (.getfield 24, 3) := by decide +kernel
theorem dX0_goesOn_48 : decode cX0_goesOn 48 = .ok (.aload_n 0, 1) := by decide +kernel
theorem dX0_goesOn_49 : decode cX0_goesOn 49 = .ok (.getfield 41, 3) := by decide +kernel
theorem dX0_goesOn_52 : decode cX0_goesOn 52 = .ok (.iconst 0, 1) := by decide +kernel
theorem dX0_goesOn_53 : decode cX0_goesOn 53 = .ok (.iastore, 1) := by decide +kernel
theorem dX0_goesOn_54 : decode cX0_goesOn 54 = .ok (.aload_n 0, 1) := by decide +kernel
theorem dX0_goesOn_55 : decode cX0_goesOn 55 = .ok (.aload_n 0, 1) := by decide +kernel
theorem dX0_goesOn_56 : decode cX0_goesOn 56 = .ok (.getfield 9, 3) := by decide +kernel
theorem dX0_goesOn_59 : decode cX0_goesOn 59 = .ok (.iload_n 1, 1) := by decide +kernel
theorem dX0_goesOn_60 : decode cX0_goesOn 60 = .ok (.invokestatic 50, 3) := by decide +kernel
theorem dX0_goesOn_63 : decode cX0_goesOn 63 = .ok (.invokevirtual 54, 3) := by decide +kernel
theorem dX0_goesOn_66 : decode cX0_goesOn 66 = .ok (.ireturn, 1) := by decide +kernel
theorem dX0_goesOn_67 : decode cX0_goesOn 67 = .ok (.aload_n 0, 1) := by decide +kernel
theorem dX0_goesOn_68 : decode cX0_goesOn 68 = .ok (.aload_n 0, 1) := by decide +kernel
theorem dX0_goesOn_69 : decode cX0_goesOn 69 = .ok (.getfield 15, 3) := by decide +kernel
theorem dX0_goesOn_72 : decode cX0_goesOn 72 = .ok (.iload_n 1, 1) := by decide +kernel
theorem dX0_goesOn_73 : decode cX0_goesOn 73 = .ok (.iconst 0, 1) := by decide +kernel
theorem dX0_goesOn_74 : decode cX0_goesOn 74 = .ok (.iconst 5, 1) := by decide +kernel
theorem dX0_goesOn_75 : decode cX0_goesOn 75 = .ok (.invokestatic 58, 3) := by decide +kernel
theorem dX0_goesOn_78 : decode cX0_goesOn 78 = .ok (.invokevirtual 54, 3) := by decide +kernel
theorem dX0_goesOn_81 : decode cX0_goesOn 81 = .ok (.ireturn, 1) := by decide +kernel
theorem dX0_goesOn_82 : decode cX0_goesOn 82 = .ok (.aload_n 0, 1) := by decide +kernel
theorem dX0_goesOn_83 : decode cX0_goesOn 83 = .ok (.aload_n 0, 1) := by decide +kernel
theorem dX0_goesOn_84 : decode cX0_goesOn 84 = .ok (.getfield 18, 3) := by decide +kernel
theorem dX0_goesOn_87 : decode cX0_goesOn 87 = .ok (.iload_n 1, 1) := by decide +kernel
theorem dX0_goesOn_88 : decode cX0_goesOn 88 = .ok (.bipush 114, 2) := by decide +kernel
theorem dX0_goesOn_90 : decode cX0_goesOn 90 = .ok (.if_icmp .ne 7, 3) := by decide +kernel
theorem dX0_goesOn_93 : decode cX0_goesOn 93 = .ok (.iconst 1, 1) := by decide +kernel
theorem dX0_goesOn_94 : decode cX0_goesOn 94 = .ok (.goto 14, 3) := by decide +kernel
theorem dX0_goesOn_97 : decode cX0_goesOn 97 = .ok (.iload_n 1, 1) := by decide +kernel
theorem dX0_goesOn_98 : decode cX0_goesOn 98 = .ok (.bipush 100, 2) := by decide +kernel
theorem dX0_goesOn_100 : decode cX0_goesOn 100 = .ok (.if_icmp .ne 7, 3) := by decide +kernel
theorem dX0_goesOn_103 : decode cX0_goesOn 103 = .ok (.iconst 0, 1) := by decide +kernel
theorem dX0_goesOn_104 : decode cX0_goesOn 104 = .ok (.goto 4, 3) := by decide +kernel
theorem dX0_goesOn_107 : decode cX0_goesOn 107 = .ok (.iconst (-1), 1) := by decide +kernel
theorem dX0_goesOn_108 : decode cX0_goesOn 108 = .ok (.invokevirtual 54, 3) := by decide +kernel
theorem dX0_goesOn_111 : decode cX0_goesOn 111 = .ok (.ireturn, 1) := by decide +kernel
theorem dX0_goesOn_112 : decode cX0_goesOn 112 = .ok (.aload_n 0, 1) := by decide +kernel
theorem dX0_goesOn_113 : decode cX0_goesOn 113 = .ok (.aload_n 0, 1) := by decide +kernel
theorem dX0_goesOn_114 : decode cX0_goesOn 114 = .ok (.getfield 21, 3) := by decide +kernel
theorem dX0_goesOn_117 : decode cX0_goesOn 117 = .ok (.iload_n 1, 1) := by decide +kernel
theorem dX0_goesOn_118 : decode cX0_goesOn 118 = .ok (.iconst 1, 1) := by decide +kernel
theorem dX0_goesOn_119 : decode cX0_goesOn 119 = .ok (.bipush 9, 2) := by decide +kernel
theorem dX0_goesOn_121 : decode cX0_goesOn 121 = .ok (.invokestatic 58, 3) := by decide +kernel
theorem dX0_goesOn_124 : decode cX0_goesOn 124 = .ok (.invokevirtual 54, 3) := by decide +kernel
theorem dX0_goesOn_127 : decode cX0_goesOn 127 = .ok (.ireturn, 1) := by decide +kernel
theorem dX0_goesOn_128 : decode cX0_goesOn 128 = .ok (.aload_n 0, 1) := by decide +kernel
theorem dX0_goesOn_129 : decode cX0_goesOn 129 = .ok (.iload_n 1, 1) := by decide +kernel
theorem dX0_goesOn_130 : decode cX0_goesOn 130 = .ok (.invokevirtual 62, 3) := by decide +kernel
theorem dX0_goesOn_133 : decode cX0_goesOn 133 = .ok (.ireturn, 1) := by decide +kernel
theorem dX0_takeInto_0 : decode cX0_takeInto 0 = .ok (.iload_n 2, 1) := by decide +kernel
theorem dX0_takeInto_1 : decode cX0_takeInto 1 = .ok (.iconst (-1), 1) := by decide +kernel
theorem dX0_takeInto_2 : decode cX0_takeInto 2 = .ok (.if_icmp .ne 5, 3) := by decide +kernel
theorem dX0_takeInto_5 : decode cX0_takeInto 5 = .ok (.iconst 0, 1) := by decide +kernel
theorem dX0_takeInto_6 : decode cX0_takeInto 6 = .ok (.ireturn, 1) := by decide +kernel
theorem dX0_takeInto_7 : decode cX0_takeInto 7 = .ok (.aload_n 1, 1) := by decide +kernel
theorem dX0_takeInto_8 : decode cX0_takeInto 8 = .ok (.aload_n 0, 1) := by decide +kernel
theorem dX0_takeInto_9 : decode cX0_takeInto 9 = .ok (.getfield 41, 3) := by decide +kernel
theorem dX0_takeInto_12 : decode cX0_takeInto 12 = .ok (.iload_n 2, 1) := by decide +kernel
theorem dX0_takeInto_13 : decode cX0_takeInto 13 = .ok (.iastore, 1) := by decide +kernel
theorem dX0_takeInto_14 : decode cX0_takeInto 14 = .ok (.aload_n 0, 1) := by decide +kernel
theorem dX0_takeInto_15 : decode cX0_takeInto 15 = .ok (.dup, 1) := by decide +kernel
theorem dX0_takeInto_16 : decode cX0_takeInto 16 = .ok (.getfield 44, 3) := by decide +kernel
theorem dX0_takeInto_19 : decode cX0_takeInto 19 = .ok (.iconst 1, 1) := by decide +kernel
theorem dX0_takeInto_20 : decode cX0_takeInto 20 = .ok (.iadd, 1) := by decide +kernel
theorem dX0_takeInto_21 : decode cX0_takeInto 21 = .ok (.putfield 44, 3) := by decide +kernel
theorem dX0_takeInto_24 : decode cX0_takeInto 24 = .ok (.iconst 1, 1) := by decide +kernel
theorem dX0_takeInto_25 : decode cX0_takeInto 25 = .ok (.ireturn, 1) := by decide +kernel
theorem dX0_takeWho_0 : decode cX0_takeWho 0 = .ok (.iload_n 1, 1) := by decide +kernel
theorem dX0_takeWho_1 : decode cX0_takeWho 1 = .ok (.bipush 59, 2) := by decide +kernel
theorem dX0_takeWho_3 : decode cX0_takeWho 3 = .ok (.if_icmp .ne 32, 3) := by decide +kernel
theorem dX0_takeWho_6 : decode cX0_takeWho 6 = .ok (.aload_n 0, 1) := by decide +kernel
theorem dX0_takeWho_7 : decode cX0_takeWho 7 = .ok (.getfield 24, 3) := by decide +kernel
theorem dX0_takeWho_10 : decode cX0_takeWho 10 = .ok (.aload_n 0, 1) := by decide +kernel
theorem dX0_takeWho_11 : decode cX0_takeWho 11 = .ok (.getfield 41, 3) := by decide +kernel
theorem dX0_takeWho_14 : decode cX0_takeWho 14 = .ok (.iaload, 1) := by decide +kernel
theorem dX0_takeWho_15 : decode cX0_takeWho 15 = .ok (.ifCond .eq 20, 3) := by decide +kernel
theorem dX0_takeWho_18 : decode cX0_takeWho 18 = .ok (.aload_n 0, 1) := by decide +kernel
theorem dX0_takeWho_19 : decode cX0_takeWho 19 = .ok (.dup, 1) := by decide +kernel
theorem dX0_takeWho_20 : decode cX0_takeWho 20 = .ok (.getfield 41, 3) := by decide +kernel
theorem dX0_takeWho_23 : decode cX0_takeWho 23 = .ok (.iconst 1, 1) := by decide +kernel
theorem dX0_takeWho_24 : decode cX0_takeWho 24 = .ok (.iadd, 1) := by decide +kernel
theorem dX0_takeWho_25 : decode cX0_takeWho 25 = .ok (.putfield 41, 3) := by decide +kernel
theorem dX0_takeWho_28 : decode cX0_takeWho 28 = .ok (.aload_n 0, 1) := by decide +kernel
theorem dX0_takeWho_29 : decode cX0_takeWho 29 = .ok (.iconst 0, 1) := by decide +kernel
theorem dX0_takeWho_30 : decode cX0_takeWho 30 = .ok (.putfield 44, 3) := by decide +kernel
theorem dX0_takeWho_33 : decode cX0_takeWho 33 = .ok (.iconst 1, 1) := by decide +kernel
theorem dX0_takeWho_34 : decode cX0_takeWho 34 = .ok (.ireturn, 1) := by decide +kernel
theorem dX0_takeWho_35 : decode cX0_takeWho 35 = .ok (.iload_n 1, 1) := by decide +kernel
theorem dX0_takeWho_36 : decode cX0_takeWho 36 = .ok (.bipush 65, 2) := by decide +kernel
theorem dX0_takeWho_38 : decode cX0_takeWho 38 = .ok (.isub, 1) := by decide +kernel
theorem dX0_takeWho_39 : decode cX0_takeWho 39 = .ok (.istore_n 2, 1) := by decide +kernel
theorem dX0_takeWho_40 : decode cX0_takeWho 40 = .ok (.iload_n 2, 1) := by decide +kernel
theorem dX0_takeWho_41 : decode cX0_takeWho 41 = .ok (.bipush 7, 2) := by decide +kernel
theorem dX0_takeWho_43 : decode cX0_takeWho 43 = .ok (.invokestatic 65, 3) := by decide +kernel
theorem dX0_takeWho_46 : decode cX0_takeWho 46 = .ok (.ifCond .eq 19, 3) := by decide +kernel
theorem dX0_takeWho_49 : decode cX0_takeWho 49 = .ok (.aload_n 0, 1) := by decide +kernel
theorem dX0_takeWho_50 : decode cX0_takeWho 50 = .ok (.getfield 24, 3) := by decide +kernel
theorem dX0_takeWho_53 : decode cX0_takeWho 53 = .ok (.aload_n 0, 1) := by decide +kernel
theorem dX0_takeWho_54 : decode cX0_takeWho 54 = .ok (.getfield 41, 3) := by decide +kernel
theorem dX0_takeWho_57 : decode cX0_takeWho 57 = .ok (.iaload, 1) := by decide +kernel
theorem dX0_takeWho_58 : decode cX0_takeWho 58 = .ok (.iload_n 2, 1) := by decide +kernel
theorem dX0_takeWho_59 : decode cX0_takeWho 59 = .ok (.invokestatic 69, 3) := by decide +kernel
theorem dX0_takeWho_62 : decode cX0_takeWho 62 = .ok (.ifCond .eq 5, 3) := by decide +kernel
theorem dX0_takeWho_65 : decode cX0_takeWho 65 = .ok (.iconst 0, 1) := by decide +kernel
theorem dX0_takeWho_66 : decode cX0_takeWho 66 = .ok (.ireturn, 1) := by decide +kernel
theorem dX0_takeWho_67 : decode cX0_takeWho 67 = .ok (.aload_n 0, 1) := by decide +kernel
theorem dX0_takeWho_68 : decode cX0_takeWho 68 = .ok (.getfield 24, 3) := by decide +kernel
theorem dX0_takeWho_71 : decode cX0_takeWho 71 = .ok (.aload_n 0, 1) := by decide +kernel
theorem dX0_takeWho_72 : decode cX0_takeWho 72 = .ok (.getfield 41, 3) := by decide +kernel
theorem dX0_takeWho_75 : decode cX0_takeWho 75 = .ok (.dup2, 1) := by decide +kernel
theorem dX0_takeWho_76 : decode cX0_takeWho 76 = .ok (.iaload, 1) := by decide +kernel
theorem dX0_takeWho_77 : decode cX0_takeWho 77 = .ok (.iconst 1, 1) := by decide +kernel
theorem dX0_takeWho_78 : decode cX0_takeWho 78 = .ok (.iload_n 2, 1) := by decide +kernel
theorem dX0_takeWho_79 : decode cX0_takeWho 79 = .ok (.ishl, 1) := by decide +kernel
theorem dX0_takeWho_80 : decode cX0_takeWho 80 = .ok (.ior, 1) := by decide +kernel
theorem dX0_takeWho_81 : decode cX0_takeWho 81 = .ok (.iastore, 1) := by decide +kernel
theorem dX0_takeWho_82 : decode cX0_takeWho 82 = .ok (.iconst 1, 1) := by decide +kernel
theorem dX0_takeWho_83 : decode cX0_takeWho 83 = .ok (.ireturn, 1) := by decide +kernel
theorem dX0_allBits_0 : decode cX0_allBits 0 = .ok (.iconst 1, 1) := by decide +kernel
theorem dX0_allBits_1 : decode cX0_allBits 1 = .ok (.aload_n 0, 1) := by decide +kernel
theorem dX0_allBits_2 : decode cX0_allBits 2 = .ok (.getfield 47, 3) := by decide +kernel
theorem dX0_allBits_5 : decode cX0_allBits 5 = .ok (.ishl, 1) := by decide +kernel
theorem dX0_allBits_6 : decode cX0_allBits 6 = .ok (.iconst 1, 1) := by decide +kernel
theorem dX0_allBits_7 : decode cX0_allBits 7 = .ok (.isub, 1) := by decide +kernel
theorem dX0_allBits_8 : decode cX0_allBits 8 = .ok (.ireturn, 1) := by decide +kernel
theorem dX0_worthOf_0 : decode cX0_worthOf 0 = .ok (.iconst 0, 1) := by decide +kernel
theorem dX0_worthOf_1 : decode cX0_worthOf 1 = .ok (.istore_n 2, 1) := by decide +kernel
theorem dX0_worthOf_2 : decode cX0_worthOf 2 = .ok (.iconst 0, 1) := by decide +kernel
theorem dX0_worthOf_3 : decode cX0_worthOf 3 = .ok (.istore_n 3, 1) := by decide +kernel
theorem dX0_worthOf_4 : decode cX0_worthOf 4 = .ok (.iload_n 3, 1) := by decide +kernel
theorem dX0_worthOf_5 : decode cX0_worthOf 5 = .ok (.aload_n 0, 1) := by decide +kernel
theorem dX0_worthOf_6 : decode cX0_worthOf 6 = .ok (.getfield 47, 3) := by decide +kernel
theorem dX0_worthOf_9 : decode cX0_worthOf 9 = .ok (.if_icmp .ge 26, 3) := by decide +kernel
theorem dX0_worthOf_12 : decode cX0_worthOf 12 = .ok (.iload_n 1, 1) := by decide +kernel
theorem dX0_worthOf_13 : decode cX0_worthOf 13 = .ok (.iload_n 3, 1) := by decide +kernel
theorem dX0_worthOf_14 : decode cX0_worthOf 14 = .ok (.invokestatic 69, 3) := by decide +kernel
theorem dX0_worthOf_17 : decode cX0_worthOf 17 = .ok (.ifCond .eq 12, 3) := by decide +kernel
theorem dX0_worthOf_20 : decode cX0_worthOf 20 = .ok (.iload_n 2, 1) := by decide +kernel
theorem dX0_worthOf_21 : decode cX0_worthOf 21 = .ok (.aload_n 0, 1) := by decide +kernel
theorem dX0_worthOf_22 : decode cX0_worthOf 22 = .ok (.getfield 21, 3) := by decide +kernel
theorem dX0_worthOf_25 : decode cX0_worthOf 25 = .ok (.iload_n 3, 1) := by decide +kernel
theorem dX0_worthOf_26 : decode cX0_worthOf 26 = .ok (.iaload, 1) := by decide +kernel
theorem dX0_worthOf_27 : decode cX0_worthOf 27 = .ok (.iadd, 1) := by decide +kernel
theorem dX0_worthOf_28 : decode cX0_worthOf 28 = .ok (.istore_n 2, 1) := by decide +kernel
theorem dX0_worthOf_29 : decode cX0_worthOf 29 = .ok (.iinc 3 1, 3) := by decide +kernel
theorem dX0_worthOf_32 : decode cX0_worthOf 32 = .ok (.goto (-28), 3) := by decide +kernel
theorem dX0_worthOf_35 : decode cX0_worthOf 35 = .ok (.iload_n 2, 1) := by decide +kernel
theorem dX0_worthOf_36 : decode cX0_worthOf 36 = .ok (.ireturn, 1) := by decide +kernel
theorem dX1_init_0 : decode cX1_init 0 = .ok (.aload_n 0, 1) := by decide +kernel
theorem dX1_init_1 : decode cX1_init 1 = .ok (.invokespecial 3, 3) := by decide +kernel
theorem dX1_init_4 : decode cX1_init 4 = .ok (.aload_n 0, 1) := by decide +kernel
theorem dX1_init_5 : decode cX1_init 5 = .ok (.bipush 32, 2) := by decide +kernel
theorem dX1_init_7 : decode cX1_init 7 = .ok (.newarray .int, 2) := by decide +kernel
theorem dX1_init_9 : decode cX1_init 9 = .ok (.putfield 11, 3) := by decide +kernel
theorem dX1_init_12 : decode cX1_init 12 = .ok (.aload_n 0, 1) := by decide +kernel
theorem dX1_init_13 : decode cX1_init 13 = .ok (.bipush 8, 2) := by decide +kernel
theorem dX1_init_15 : decode cX1_init 15 = .ok (.newarray .int, 2) := by decide +kernel
theorem dX1_init_17 : decode cX1_init 17 = .ok (.putfield 15, 3) := by decide +kernel
theorem dX1_init_20 : decode cX1_init 20 = .ok (.aload_n 0, 1) := by decide +kernel
theorem dX1_init_21 : decode cX1_init 21 = .ok (.iconst 4, 1) := by decide +kernel
theorem dX1_init_22 : decode cX1_init 22 = .ok (.newarray .int, 2) := by decide +kernel
theorem dX1_init_24 : decode cX1_init 24 = .ok (.putfield 18, 3) := by decide +kernel
theorem dX1_init_27 : decode cX1_init 27 = .ok (.iconst 0, 1) := by decide +kernel
theorem dX1_init_28 : decode cX1_init 28 = .ok (.istore_n 1, 1) := by decide +kernel
theorem dX1_init_29 : decode cX1_init 29 = .ok (.iload_n 1, 1) := by decide +kernel
theorem dX1_init_30 : decode cX1_init 30 = .ok (.bipush 8, 2) := by decide +kernel
theorem dX1_init_32 : decode cX1_init 32 = .ok (.if_icmp .ge 44, 3) := by decide +kernel
theorem dX1_init_35 : decode cX1_init 35 = .ok (.aload_n 0, 1) := by decide +kernel
theorem dX1_init_36 : decode cX1_init 36 = .ok (.getfield 11, 3) := by decide +kernel
theorem dX1_init_39 : decode cX1_init 39 = .ok (.iload_n 1, 1) := by decide +kernel
theorem dX1_init_40 : decode cX1_init 40 = .ok (.iconst 4, 1) := by decide +kernel
theorem dX1_init_41 : decode cX1_init 41 = .ok (.imul, 1) := by decide +kernel
theorem dX1_init_42 : decode cX1_init 42 = .ok (.iconst 1, 1) := by decide +kernel
theorem dX1_init_43 : decode cX1_init 43 = .ok (.iadd, 1) := by decide +kernel
theorem dX1_init_44 : decode cX1_init 44 = .ok (.bipush 8, 2) := by decide +kernel
theorem dX1_init_46 : decode cX1_init 46 = .ok (.iastore, 1) := by decide +kernel
theorem dX1_init_47 : decode cX1_init 47 = .ok (.aload_n 0, 1) := by decide +kernel
theorem dX1_init_48 : decode cX1_init 48 = .ok (.getfield 11, 3) := by decide +kernel
theorem dX1_init_51 : decode cX1_init 51 = .ok (.iload_n 1, 1) := by decide +kernel
theorem dX1_init_52 : decode cX1_init 52 = .ok (.iconst 4, 1) := by decide +kernel
theorem dX1_init_53 : decode cX1_init 53 = .ok (.imul, 1) := by decide +kernel
theorem dX1_init_54 : decode cX1_init 54 = .ok (.iconst 2, 1) := by decide +kernel
theorem dX1_init_55 : decode cX1_init 55 = .ok (.iadd, 1) := by decide +kernel
theorem dX1_init_56 : decode cX1_init 56 = .ok (.iconst 1, 1) := by decide +kernel
theorem dX1_init_57 : decode cX1_init 57 = .ok (.iastore, 1) := by decide +kernel
theorem dX1_init_58 : decode cX1_init 58 = .ok (.aload_n 0, 1) := by decide +kernel
theorem dX1_init_59 : decode cX1_init 59 = .ok (.getfield 11, 3) := by decide +kernel
theorem dX1_init_62 : decode cX1_init 62 = .ok (.iload_n 1, 1) := by decide +kernel
theorem dX1_init_63 : decode cX1_init 63 = .ok (.iconst 4, 1) := by decide +kernel
theorem dX1_init_64 : decode cX1_init 64 = .ok (.imul, 1) := by decide +kernel
theorem dX1_init_65 : decode cX1_init 65 = .ok (.iconst 3, 1) := by decide +kernel
theorem dX1_init_66 : decode cX1_init 66 = .ok (.iadd, 1) := by decide +kernel
theorem dX1_init_67 : decode cX1_init 67 = .ok (.bipush 16, 2) := by decide +kernel
theorem dX1_init_69 : decode cX1_init 69 = .ok (.iastore, 1) := by decide +kernel
theorem dX1_init_70 : decode cX1_init 70 = .ok (.iinc 1 1, 3) := by decide +kernel
theorem dX1_init_73 : decode cX1_init 73 = .ok (.goto (-44), 3) := by decide +kernel
theorem dX1_init_76 : decode cX1_init 76 = .ok (.aload_n 0, 1) := by decide +kernel
theorem dX1_init_77 : decode cX1_init 77 = .ok (.getfield 18, 3) := by decide +kernel
theorem dX1_init_80 : decode cX1_init 80 = .ok (.iconst 0, 1) := by decide +kernel
theorem dX1_init_81 : decode cX1_init 81 = .ok (.bipush 9, 2) := by decide +kernel
theorem dX1_init_83 : decode cX1_init 83 = .ok (.iastore, 1) := by decide +kernel
theorem dX1_init_84 : decode cX1_init 84 = .ok (.aload_n 0, 1) := by decide +kernel
theorem dX1_init_85 : decode cX1_init 85 = .ok (.getfield 18, 3) := by decide +kernel
theorem dX1_init_88 : decode cX1_init 88 = .ok (.iconst 2, 1) := by decide +kernel
theorem dX1_init_89 : decode cX1_init 89 = .ok (.sipush 999, 3) := by decide +kernel
theorem dX1_init_92 : decode cX1_init 92 = .ok (.iastore, 1) := by decide +kernel
theorem dX1_init_93 : decode cX1_init 93 = .ok (.aload_n 0, 1) := by decide +kernel
theorem dX1_init_94 : decode cX1_init 94 = .ok (.getfield 18, 3) := by decide +kernel
theorem dX1_init_97 : decode cX1_init 97 = .ok (.iconst 3, 1) := by decide +kernel
theorem dX1_init_98 : decode cX1_init 98 = .ok (.bipush 6, 2) := by decide +kernel
theorem dX1_init_100 : decode cX1_init 100 = .ok (.iastore, 1) := by decide +kernel
theorem dX1_init_101 : decode cX1_init 101 = .ok (.return_, 1) := by decide +kernel
theorem dX1_trait_0 : decode cX1_trait 0 = .ok (.aload_n 0, 1) := by decide +kernel
theorem dX1_trait_1 : decode cX1_trait 1 = .ok (.getfield 11, 3) := by decide +kernel
theorem dX1_trait_4 : decode cX1_trait 4 = .ok (.iload_n 1, 1) := by decide +kernel
theorem dX1_trait_5 : decode cX1_trait 5 = .ok (.iconst 4, 1) := by decide +kernel
theorem dX1_trait_6 : decode cX1_trait 6 = .ok (.imul, 1) := by decide +kernel
theorem dX1_trait_7 : decode cX1_trait 7 = .ok (.iload_n 2, 1) := by decide +kernel
theorem dX1_trait_8 : decode cX1_trait 8 = .ok (.iadd, 1) := by decide +kernel
theorem dX1_trait_9 : decode cX1_trait 9 = .ok (.iaload, 1) := by decide +kernel
theorem dX1_trait_10 : decode cX1_trait 10 = .ok (.ireturn, 1) := by decide +kernel
theorem dX1_changeTrait_0 : decode cX1_changeTrait 0 = .ok (.aload_n 0, 1) := by decide +kernel
theorem dX1_changeTrait_1 : decode cX1_changeTrait 1 = .ok (.getfield 11, 3) := by decide +kernel
theorem dX1_changeTrait_4 : decode cX1_changeTrait 4 = .ok (.iload_n 1, 1) := by decide +kernel
theorem dX1_changeTrait_5 : decode cX1_changeTrait 5 = .ok (.iconst 4, 1) := by decide +kernel
theorem dX1_changeTrait_6 : decode cX1_changeTrait 6 = .ok (.imul, 1) := by decide +kernel
theorem dX1_changeTrait_7 : decode cX1_changeTrait 7 = .ok (.iload_n 2, 1) := by decide +kernel
theorem dX1_changeTrait_8 : decode cX1_changeTrait 8 = .ok (.iadd, 1) := by decide +kernel
theorem dX1_changeTrait_9 : decode cX1_changeTrait 9 = .ok (.iaload, 1) := by decide +kernel
theorem dX1_changeTrait_10 : decode cX1_changeTrait 10 = .ok (.istore 4, 2) := by decide +kernel
theorem dX1_changeTrait_12 : decode cX1_changeTrait 12 = .ok (.aload_n 0, 1) := by decide +kernel
theorem dX1_changeTrait_13 : decode cX1_changeTrait 13 = .ok (.getfield 11, 3) := by decide +kernel
theorem dX1_changeTrait_16 : decode cX1_changeTrait 16 = .ok (.iload_n 1, 1) := by decide +kernel
theorem dX1_changeTrait_17 : decode cX1_changeTrait 17 = .ok (.iconst 4, 1) := by decide +kernel
theorem dX1_changeTrait_18 : decode cX1_changeTrait 18 = .ok (.imul, 1) := by decide +kernel
theorem dX1_changeTrait_19 : decode cX1_changeTrait 19 = .ok (.iload_n 2, 1) := by decide +kernel
theorem dX1_changeTrait_20 : decode cX1_changeTrait 20 = .ok (.iadd, 1) := by decide +kernel
theorem dX1_changeTrait_21 : decode cX1_changeTrait 21 = .ok (.iload_n 3, 1) := by decide +kernel
theorem dX1_changeTrait_22 : decode cX1_changeTrait 22 = .ok (.iastore, 1) := by decide +kernel
theorem dX1_changeTrait_23 : decode cX1_changeTrait 23 = .ok (.iload 4, 2) := by decide +kernel
theorem dX1_changeTrait_25 : decode cX1_changeTrait 25 = .ok (.ireturn, 1) := by decide +kernel
theorem dX1_changeSky_0 : decode cX1_changeSky 0 = .ok (.aload_n 0, 1) := by decide +kernel
theorem dX1_changeSky_1 : decode cX1_changeSky 1 = .ok (.getfield 15, 3) := by decide +kernel
theorem dX1_changeSky_4 : decode cX1_changeSky 4 = .ok (.iload_n 1, 1) := by decide +kernel
theorem dX1_changeSky_5 : decode cX1_changeSky 5 = .ok (.iaload, 1) := by decide +kernel
theorem dX1_changeSky_6 : decode cX1_changeSky 6 = .ok (.istore_n 3, 1) := by decide +kernel
theorem dX1_changeSky_7 : decode cX1_changeSky 7 = .ok (.aload_n 0, 1) := by decide +kernel
theorem dX1_changeSky_8 : decode cX1_changeSky 8 = .ok (.getfield 15, 3) := by decide +kernel
theorem dX1_changeSky_11 : decode cX1_changeSky 11 = .ok (.iload_n 1, 1) := by decide +kernel
theorem dX1_changeSky_12 : decode cX1_changeSky 12 = .ok (.iload_n 2, 1) := by decide +kernel
theorem dX1_changeSky_13 : decode cX1_changeSky 13 = .ok (.iastore, 1) := by decide +kernel
theorem dX1_changeSky_14 : decode cX1_changeSky 14 = .ok (.iload_n 3, 1) := by decide +kernel
theorem dX1_changeSky_15 : decode cX1_changeSky 15 = .ok (.ireturn, 1) := by decide +kernel
theorem dX1_changeSetting_0 : decode cX1_changeSetting 0 = .ok (.aload_n 0, 1) := by decide +kernel
theorem dX1_changeSetting_1 : decode cX1_changeSetting 1 = .ok (.getfield 18, 3) := by decide +kernel
theorem dX1_changeSetting_4 : decode cX1_changeSetting 4 = .ok (.iload_n 1, 1) := by decide +kernel
theorem dX1_changeSetting_5 : decode cX1_changeSetting 5 = .ok (.iaload, 1) := by decide +kernel
theorem dX1_changeSetting_6 : decode cX1_changeSetting 6 = .ok (.istore_n 3, 1) := by decide +kernel
theorem dX1_changeSetting_7 : decode cX1_changeSetting 7 = .ok (.aload_n 0, 1) := by decide +kernel
theorem dX1_changeSetting_8 : decode cX1_changeSetting 8 = .ok (.getfield 18, 3) := by decide +kernel
theorem dX1_changeSetting_11 : decode cX1_changeSetting 11 = .ok (.iload_n 1, 1) := by decide +kernel
theorem dX1_changeSetting_12 : decode cX1_changeSetting 12 = .ok (.iload_n 2, 1) := by decide +kernel
theorem dX1_changeSetting_13 : decode cX1_changeSetting 13 = .ok (.iastore, 1) := by decide +kernel
theorem dX1_changeSetting_14 : decode cX1_changeSetting 14 = .ok (.iload_n 3, 1) := by decide +kernel
theorem dX1_changeSetting_15 : decode cX1_changeSetting 15 = .ok (.ireturn, 1) := by decide +kernel
theorem dX1_isHere_0 : decode cX1_isHere 0 = .ok (.iload_n 2, 1) := by decide +kernel
theorem dX1_isHere_1 : decode cX1_isHere 1 = .ok (.aload_n 0, 1) := by decide +kernel
theorem dX1_isHere_2 : decode cX1_isHere 2 = .ok (.getfield 11, 3) := by decide +kernel
theorem dX1_isHere_5 : decode cX1_isHere 5 = .ok (.iload_n 1, 1) := by decide +kernel
theorem dX1_isHere_6 : decode cX1_isHere 6 = .ok (.iconst 4, 1) := by decide +kernel
theorem dX1_isHere_7 : decode cX1_isHere 7 = .ok (.imul, 1) := by decide +kernel
theorem dX1_isHere_8 : decode cX1_isHere 8 = .ok (.iconst 0, 1) := by decide +kernel
theorem dX1_isHere_9 : decode cX1_isHere 9 = .ok (.iadd, 1) := by decide +kernel
theorem dX1_isHere_10 : decode cX1_isHere 10 = .ok (.iaload, 1) := by decide +kernel
theorem dX1_isHere_11 : decode cX1_isHere 11 = .ok (.if_icmp .lt 21, 3) := by decide +kernel
theorem dX1_isHere_14 : decode cX1_isHere 14 = .ok (.iload_n 2, 1) := by decide +kernel
theorem dX1_isHere_15 : decode cX1_isHere 15 = .ok (.aload_n 0, 1) := by decide +kernel
theorem dX1_isHere_16 : decode cX1_isHere 16 = .ok (.getfield 11, 3) := by decide +kernel
theorem dX1_isHere_19 : decode cX1_isHere 19 = .ok (.iload_n 1, 1) := by decide +kernel
theorem dX1_isHere_20 : decode cX1_isHere 20 = .ok (.iconst 4, 1) := by decide +kernel
theorem dX1_isHere_21 : decode cX1_isHere 21 = .ok (.imul, 1) := by decide +kernel
theorem dX1_isHere_22 : decode cX1_isHere 22 = .ok (.iconst 1, 1) := by decide +kernel
theorem dX1_isHere_23 : decode cX1_isHere 23 = .ok (.iadd, 1) := by decide +kernel
theorem dX1_isHere_24 : decode cX1_isHere 24 = .ok (.iaload, 1) := by decide +kernel
theorem dX1_isHere_25 : decode cX1_isHere 25 = .ok (.if_icmp .ge 7, 3) := by decide +kernel
theorem dX1_isHere_28 : decode cX1_isHere 28 = .ok (.iconst 1, 1) := by decide +kernel
theorem dX1_isHere_29 : decode cX1_isHere 29 = .ok (.goto 4, 3) := by decide +kernel
theorem dX1_isHere_32 : decode cX1_isHere 32 = .ok (.iconst 0, 1) := by decide +kernel
theorem dX1_isHere_33 : decode cX1_isHere 33 = .ok (.ireturn, 1) := by decide +kernel
theorem dX1_rainyHours_0 : decode cX1_rainyHours 0 = .ok (.iconst 0, 1) := by decide +kernel
theorem dX1_rainyHours_1 : decode cX1_rainyHours 1 = .ok (.istore_n 1, 1) := by decide +kernel
theorem dX1_rainyHours_2 : decode cX1_rainyHours 2 = .ok (.iconst 0, 1) := by decide +kernel
theorem dX1_rainyHours_3 : decode cX1_rainyHours 3 = .ok (.istore_n 2, 1) := by decide +kernel
theorem dX1_rainyHours_4 : decode cX1_rainyHours 4 = .ok (.iload_n 2, 1) := by decide +kernel
theorem dX1_rainyHours_5 : decode cX1_rainyHours 5 = .ok (.bipush 8, 2) := by decide +kernel
theorem dX1_rainyHours_7 : decode cX1_rainyHours 7 = .ok (.if_icmp .ge 18, 3) := by decide +kernel
theorem dX1_rainyHours_10 : decode cX1_rainyHours 10 = .ok (.iload_n 1, 1) := by decide +kernel
theorem dX1_rainyHours_11 : decode cX1_rainyHours 11 = .ok (.aload_n 0, 1) := by decide +kernel
theorem dX1_rainyHours_12 : decode cX1_rainyHours 12 = .ok (.getfield 15, 3) := by decide +kernel
theorem dX1_rainyHours_15 : decode cX1_rainyHours 15 = .ok (.iload_n 2, 1) := by decide +kernel
theorem dX1_rainyHours_16 : decode cX1_rainyHours 16 = .ok (.iaload, 1) := by decide +kernel
theorem dX1_rainyHours_17 : decode cX1_rainyHours 17 = .ok (.iadd, 1) := by decide +kernel
theorem dX1_rainyHours_18 : decode cX1_rainyHours 18 = .ok (.istore_n 1, 1) := by decide +kernel
theorem dX1_rainyHours_19 : decode cX1_rainyHours 19 = .ok (.iinc 2 1, 3) := by decide +kernel
theorem dX1_rainyHours_22 : decode cX1_rainyHours 22 = .ok (.goto (-18), 3) := by decide +kernel
theorem dX1_rainyHours_25 : decode cX1_rainyHours 25 = .ok (.iload_n 1, 1) := by decide +kernel
theorem dX1_rainyHours_26 : decode cX1_rainyHours 26 = .ok (.ireturn, 1) := by decide +kernel
theorem dX2_init_0 : decode cX2_init 0 = .ok (.aload_n 0, 1) := by decide +kernel
theorem dX2_init_1 : decode cX2_init 1 = .ok (.invokespecial 3, 3) := by decide +kernel
theorem dX2_init_4 : decode cX2_init 4 = .ok (.aload_n 0, 1) := by decide +kernel
theorem dX2_init_5 : decode cX2_init 5 = .ok (.new 9, 3) := by decide +kernel
theorem dX2_init_8 : decode cX2_init 8 = .ok (.dup, 1) := by decide +kernel
theorem dX2_init_9 : decode cX2_init 9 = .ok (.invokespecial 11, 3) := by decide +kernel
theorem dX2_init_12 : decode cX2_init 12 = .ok (.putfield 12, 3) := by decide +kernel
theorem dX2_init_15 : decode cX2_init 15 = .ok (.aload_n 0, 1) := by decide +kernel
theorem dX2_init_16 : decode cX2_init 16 = .ok (.new 18, 3) := by decide +kernel
theorem dX2_init_19 : decode cX2_init 19 = .ok (.dup, 1) := by decide +kernel
theorem dX2_init_20 : decode cX2_init 20 = .ok (.invokespecial 20, 3) := by decide +kernel
theorem dX2_init_23 : decode cX2_init 23 = .ok (.putfield 21, 3) := by decide +kernel
theorem dX2_init_26 : decode cX2_init 26 = .ok (.aload_n 0, 1) := by decide +kernel
theorem dX2_init_27 : decode cX2_init 27 = .ok (.new 25, 3) := by decide +kernel
theorem dX2_init_30 : decode cX2_init 30 = .ok (.dup, 1) := by decide +kernel
theorem dX2_init_31 : decode cX2_init 31 = .ok (.invokespecial 27, 3) := by decide +kernel
theorem dX2_init_34 : decode cX2_init 34 = .ok (.putfield 28, 3) := by decide +kernel
theorem dX2_init_37 : decode cX2_init 37 = .ok (.aload_n 0, 1) := by decide +kernel
theorem dX2_init_38 : decode cX2_init 38 = .ok (.bipush 8, 2) := by decide +kernel
theorem dX2_init_40 : decode cX2_init 40 = .ok (.newarray .int, 2) := by decide +kernel
theorem dX2_init_42 : decode cX2_init 42 = .ok (.putfield 32, 3) := by decide +kernel
theorem dX2_init_45 : decode cX2_init 45 = .ok (.aload_n 0, 1) := by decide +kernel
theorem dX2_init_46 : decode cX2_init 46 = .ok (.bipush 8, 2) := by decide +kernel
theorem dX2_init_48 : decode cX2_init 48 = .ok (.newarray .boolean, 2) := by decide +kernel
theorem dX2_init_50 : decode cX2_init 50 = .ok (.putfield 36, 3) := by decide +kernel
theorem dX2_init_53 : decode cX2_init 53 = .ok (.aload_n 0, 1) := by decide +kernel
theorem dX2_init_54 : decode cX2_init 54 = .ok (.bipush 8, 2) := by decide +kernel
theorem dX2_init_56 : decode cX2_init 56 = .ok (.newarray .boolean, 2) := by decide +kernel
theorem dX2_init_58 : decode cX2_init 58 = .ok (.putfield 40, 3) := by decide +kernel
theorem dX2_init_61 : decode cX2_init 61 = .ok (.aload_n 0, 1) := by decide +kernel
theorem dX2_init_62 : decode cX2_init 62 = .ok (.bipush 64, 2) := by decide +kernel
theorem dX2_init_64 : decode cX2_init 64 = .ok (.newarray .int, 2) := by decide +kernel
theorem dX2_init_66 : decode cX2_init 66 = .ok (.putfield 43, 3) := by decide +kernel
theorem dX2_init_69 : decode cX2_init 69 = .ok (.aload_n 0, 1) := by decide +kernel
theorem dX2_init_70 : decode cX2_init 70 = .ok (.bipush 64, 2) := by decide +kernel
theorem dX2_init_72 : decode cX2_init 72 = .ok (.newarray .int, 2) := by decide +kernel
theorem dX2_init_74 : decode cX2_init 74 = .ok (.putfield 46, 3) := by decide +kernel
theorem dX2_init_77 : decode cX2_init 77 = .ok (.aload_n 0, 1) := by decide +kernel
theorem dX2_init_78 : decode cX2_init 78 = .ok (.bipush 8, 2) := by decide +kernel
theorem dX2_init_80 : decode cX2_init 80 = .ok (.newarray .int, 2) := by decide +kernel
theorem dX2_init_82 : decode cX2_init 82 = .ok (.putfield 49, 3) := by decide +kernel
theorem dX2_init_85 : decode cX2_init 85 = .ok (.return_, 1) := by decide +kernel
theorem dX2_reckon_0 : decode cX2_reckon 0 = .ok (.aload_n 0, 1) := by decide +kernel
theorem dX2_reckon_1 : decode cX2_reckon 1 = .ok (.invokevirtual 52, 3) := by decide +kernel
theorem dX2_reckon_4 : decode cX2_reckon 4 = .ok (.iconst 0, 1) := by decide +kernel
theorem dX2_reckon_5 : decode cX2_reckon 5 = .ok (.istore_n 1, 1) := by decide +kernel
theorem dX2_reckon_6 : decode cX2_reckon 6 = .ok (.iload_n 1, 1) := by decide +kernel
theorem dX2_reckon_7 : decode cX2_reckon 7 = .ok (.aload_n 0, 1) := by decide +kernel
theorem dX2_reckon_8 : decode cX2_reckon 8 = .ok (.getfield 12, 3) := by decide +kernel
theorem dX2_reckon_11 : decode cX2_reckon 11 = .ok (.getfield 55, 3) := by decide +kernel
theorem dX2_reckon_14 : decode cX2_reckon 14 = .ok (.if_icmp .ge 34, 3) := by decide +kernel
theorem dX2_reckon_17 : decode cX2_reckon 17 = .ok (.aload_n 0, 1) := by decide +kernel
theorem dX2_reckon_18 : decode cX2_reckon 18 = .ok (.iload_n 1, 1) := by decide +kernel
theorem dX2_reckon_19 : decode cX2_reckon 19 = .ok (.invokevirtual 59, 3) := by decide +kernel
theorem dX2_reckon_22 : decode cX2_reckon 22 = .ok (.iconst 0, 1) := by decide +kernel
theorem dX2_reckon_23 : decode cX2_reckon 23 = .ok (.istore_n 2, 1) := by decide +kernel
theorem dX2_reckon_24 : decode cX2_reckon 24 = .ok (.iload_n 2, 1) := by decide +kernel
theorem dX2_reckon_25 : decode cX2_reckon 25 = .ok (.bipush 8, 2) := by decide +kernel
theorem dX2_reckon_27 : decode cX2_reckon 27 = .ok (.if_icmp .ge 15, 3) := by decide +kernel
theorem dX2_reckon_30 : decode cX2_reckon 30 = .ok (.aload_n 0, 1) := by decide +kernel
theorem dX2_reckon_31 : decode cX2_reckon 31 = .ok (.iload_n 1, 1) := by decide +kernel
theorem dX2_reckon_32 : decode cX2_reckon 32 = .ok (.iload_n 2, 1) := by decide +kernel
theorem dX2_reckon_33 : decode cX2_reckon 33 = .ok (.invokevirtual 63, 3) := by decide +kernel
theorem dX2_reckon_36 : decode cX2_reckon 36 = .ok (.iinc 2 1, 3) := by decide +kernel
theorem dX2_reckon_39 : decode cX2_reckon 39 = .ok (.goto (-15), 3) := by decide +kernel
theorem dX2_reckon_42 : decode cX2_reckon 42 = .ok (.iinc 1 1, 3) := by decide +kernel
theorem dX2_reckon_45 : decode cX2_reckon 45 = .ok (.goto (-39), 3) := by decide +kernel
theorem dX2_reckon_48 : decode cX2_reckon 48 = .ok (.return_, 1) := by decide +kernel
theorem dX2_applyRule_0 : decode cX2_applyRule 0 = .ok (.aload_n 0, 1) := by decide +kernel
theorem dX2_applyRule_1 : decode cX2_applyRule 1 = .ok (.getfield 12, 3) := by decide +kernel
theorem dX2_applyRule_4 : decode cX2_applyRule 4 = .ok (.getfield 67, 3) := by decide +kernel
theorem dX2_applyRule_7 : decode cX2_applyRule 7 = .ok (.iload_n 1, 1) := by decide +kernel
theorem dX2_applyRule_8 : decode cX2_applyRule 8 = .ok (.iaload, 1) := by decide +kernel
theorem dX2_applyRule_9 : decode cX2_applyRule 9 = .ok (.istore_n 2, 1) := by decide +kernel
theorem dX2_applyRule_10 : decode cX2_applyRule 10 = .ok (.aload_n 0, 1) := by decide +kernel
theorem dX2_applyRule_11 : decode cX2_applyRule 11 = .ok (.getfield 32, 3) := by decide +kernel
theorem dX2_applyRule_14 : decode cX2_applyRule 14 = .ok (.iload_n 1, 1) := by decide +kernel
theorem dX2_applyRule_15 : decode cX2_applyRule 15 = .ok (.aload_n 0, 1) := by decide +kernel
theorem dX2_applyRule_16 : decode cX2_applyRule 16 = .ok (.getfield 21, 3) := by decide +kernel
theorem dX2_applyRule_19 : decode cX2_applyRule 19 = .ok (.iload_n 2, 1) := by decide +kernel
theorem dX2_applyRule_20 : decode cX2_applyRule 20 = .ok (.invokevirtual 70, 3) := by decide +kernel
theorem dX2_applyRule_23 : decode cX2_applyRule 23 = .ok (.aload_n 0, 1) := by decide +kernel
theorem dX2_applyRule_24 : decode cX2_applyRule 24 = .ok (.getfield 12, 3) := by decide +kernel
theorem dX2_applyRule_27 : decode cX2_applyRule 27 = .ok (.getfield 74, 3) := by decide +kernel
theorem dX2_applyRule_30 : decode cX2_applyRule 30 = .ok (.iload_n 1, 1) := by decide +kernel
theorem dX2_applyRule_31 : decode cX2_applyRule 31 = .ok (.iaload, 1) := by decide +kernel
theorem dX2_applyRule_32 : decode cX2_applyRule 32 = .ok (.invokestatic 77, 3) := by decide +kernel
theorem dX2_applyRule_35 : decode cX2_applyRule 35 = .ok (.invokestatic 82, 3) := by decide +kernel
theorem dX2_applyRule_38 : decode cX2_applyRule 38 = .ok (.iastore, 1) := by decide +kernel
theorem dX2_applyRule_39 : decode cX2_applyRule 39 = .ok (.aload_n 0, 1) := by decide +kernel
theorem dX2_applyRule_40 : decode cX2_applyRule 40 = .ok (.getfield 36, 3) := by decide +kernel
theorem dX2_applyRule_43 : decode cX2_applyRule 43 = .ok (.iload_n 1, 1) := by decide +kernel
theorem dX2_applyRule_44 : decode cX2_applyRule 44 = .ok (.aload_n 0, 1) := by decide +kernel
theorem dX2_applyRule_45 : decode cX2_applyRule 45 = .ok (.getfield 21, 3) := by decide +kernel
theorem dX2_applyRule_48 : decode cX2_applyRule 48 = .ok (.iload_n 2, 1) := by decide +kernel
theorem dX2_applyRule_49 : decode cX2_applyRule 49 = .ok (.invokevirtual 88, 3) := by decide +kernel
theorem dX2_applyRule_52 : decode cX2_applyRule 52 = .ok (.bastore, 1) := by decide +kernel
theorem dX2_applyRule_53 : decode cX2_applyRule 53 = .ok (.aload_n 0, 1) := by decide +kernel
theorem dX2_applyRule_54 : decode cX2_applyRule 54 = .ok (.getfield 40, 3) := by decide +kernel
theorem dX2_applyRule_57 : decode cX2_applyRule 57 = .ok (.iload_n 1, 1) := by decide +kernel
theorem dX2_applyRule_58 : decode cX2_applyRule 58 = .ok (.aload_n 0, 1) := by decide +kernel
theorem dX2_applyRule_59 : decode cX2_applyRule 59 = .ok (.getfield 21, 3) := by decide +kernel
theorem dX2_applyRule_62 : decode cX2_applyRule 62 = .ok (.iload_n 2, 1) := by decide +kernel
theorem dX2_applyRule_63 : decode cX2_applyRule 63 = .ok (.invokevirtual 91, 3) := by decide +kernel
theorem dX2_applyRule_66 : decode cX2_applyRule 66 = .ok (.bastore, 1) := by decide +kernel
theorem dX2_applyRule_67 : decode cX2_applyRule 67 = .ok (.return_, 1) := by decide +kernel
theorem dX2_sortByPrice_0 : decode cX2_sortByPrice 0 = .ok (.iconst 0, 1) := by decide +kernel
theorem dX2_sortByPrice_1 : decode cX2_sortByPrice 1 = .ok (.istore_n 1, 1) := by decide +kernel
theorem dX2_sortByPrice_2 : decode cX2_sortByPrice 2 = .ok (.iload_n 1, 1) := by decide +kernel
theorem dX2_sortByPrice_3 : decode cX2_sortByPrice 3 = .ok (.bipush 8, 2) := by decide +kernel
theorem dX2_sortByPrice_5 : decode cX2_sortByPrice 5 = .ok (.if_icmp .ge 70, 3) := by decide +kernel
theorem dX2_sortByPrice_8 : decode cX2_sortByPrice 8 = .ok (.iload_n 1, 1) := by decide +kernel
theorem dX2_sortByPrice_9 : decode cX2_sortByPrice 9 = .ok (.istore_n 2, 1) := by decide +kernel
theorem dX2_sortByPrice_10 : decode cX2_sortByPrice 10 = .ok (.iload_n 2, 1) := by decide +kernel
theorem dX2_sortByPrice_11 : decode cX2_sortByPrice 11 = .ok (.ifCond .le 51, 3) := by decide +kernel
theorem dX2_sortByPrice_14 : decode cX2_sortByPrice 14 = .ok (.aload_n 0, 1) := by decide +kernel
theorem dX2_sortByPrice_15 : decode cX2_sortByPrice 15 = .ok (.getfield 28, 3) := by decide +kernel
theorem dX2_sortByPrice_18 : decode cX2_sortByPrice 18 = .ok (.aload_n 0, 1) := by decide +kernel
theorem dX2_sortByPrice_19 : decode cX2_sortByPrice 19 = .ok (.getfield 49, 3) := by decide +kernel
theorem dX2_sortByPrice_22 : decode cX2_sortByPrice 22 = .ok (.iload_n 2, 1) := by decide +kernel
theorem dX2_sortByPrice_23 : decode cX2_sortByPrice 23 = .ok (.iconst 1, 1) := by decide +kernel
theorem dX2_sortByPrice_24 : decode cX2_sortByPrice 24 = .ok (.isub, 1) := by decide +kernel
theorem dX2_sortByPrice_25 : decode cX2_sortByPrice 25 = .ok (.iaload, 1) := by decide +kernel
theorem dX2_sortByPrice_26 : decode cX2_sortByPrice 26 = .ok (.iconst 2, 1) := by decide +kernel
theorem dX2_sortByPrice_27 : decode cX2_sortByPrice 27 = .ok (.invokevirtual 93, 3) := by decide +kernel
theorem dX2_sortByPrice_30 : decode cX2_sortByPrice 30 = .ok (.aload_n 0, 1) := by decide +kernel
theorem dX2_sortByPrice_31 : decode cX2_sortByPrice 31 = .ok (.getfield 28, 3) := by decide +kernel
theorem dX2_sortByPrice_34 : decode cX2_sortByPrice 34 = .ok (.iload_n 1, 1) := by decide +kernel
theorem dX2_sortByPrice_35 : decode cX2_sortByPrice 35 = .ok (.iconst 2, 1) := by decide +kernel
theorem dX2_sortByPrice_36 : decode cX2_sortByPrice 36 = .ok (.invokevirtual 93, 3) := by decide +kernel
theorem dX2_sortByPrice_39 : decode cX2_sortByPrice 39 = .ok (.if_icmp .le 23, 3) := by decide +kernel
theorem dX2_sortByPrice_42 : decode cX2_sortByPrice 42 = .ok (.aload_n 0, 1) := by decide +kernel
theorem dX2_sortByPrice_43 : decode cX2_sortByPrice 43 = .ok (.getfield 49, 3) := by decide +kernel
theorem dX2_sortByPrice_46 : decode cX2_sortByPrice 46 = .ok (.iload_n 2, 1) := by decide +kernel
theorem dX2_sortByPrice_47 : decode cX2_sortByPrice 47 = .ok (.aload_n 0, 1) := by decide +kernel
theorem dX2_sortByPrice_48 : decode cX2_sortByPrice 48 = .ok (.getfield 49, 3) := by decide +kernel
theorem dX2_sortByPrice_51 : decode cX2_sortByPrice 51 = .ok (.iload_n 2, 1) := by decide +kernel
theorem dX2_sortByPrice_52 : decode cX2_sortByPrice 52 = .ok (.iconst 1, 1) := by decide +kernel
theorem dX2_sortByPrice_53 : decode cX2_sortByPrice 53 = .ok (.isub, 1) := by decide +kernel
theorem dX2_sortByPrice_54 : decode cX2_sortByPrice 54 = .ok (.iaload, 1) := by decide +kernel
theorem dX2_sortByPrice_55 : decode cX2_sortByPrice 55 = .ok (.iastore, 1) := by decide +kernel
theorem dX2_sortByPrice_56 : decode cX2_sortByPrice 56 = .ok (.iinc 2 (-1), 3) := by decide +kernel
theorem dX2_sortByPrice_59 : decode cX2_sortByPrice 59 = .ok (.goto (-49), 3) := by decide +kernel
theorem dX2_sortByPrice_62 : decode cX2_sortByPrice 62 = .ok (.aload_n 0, 1) := by decide +kernel
theorem dX2_sortByPrice_63 : decode cX2_sortByPrice 63 = .ok (.getfield 49, 3) := by decide +kernel
theorem dX2_sortByPrice_66 : decode cX2_sortByPrice 66 = .ok (.iload_n 2, 1) := by decide +kernel
theorem dX2_sortByPrice_67 : decode cX2_sortByPrice 67 = .ok (.iload_n 1, 1) := by decide +kernel
theorem dX2_sortByPrice_68 : decode cX2_sortByPrice 68 = .ok (.iastore, 1) := by decide +kernel
theorem dX2_sortByPrice_69 : decode cX2_sortByPrice 69 = .ok (.iinc 1 1, 3) := by decide +kernel
theorem dX2_sortByPrice_72 : decode cX2_sortByPrice 72 = .ok (.goto (-70), 3) := by decide +kernel
theorem dX2_sortByPrice_75 : decode cX2_sortByPrice 75 = .ok (.return_, 1) := by decide +kernel
theorem dX2_reckonOne_0 : decode cX2_reckonOne 0 = .ok (.aload_n 0, 1) := by decide +kernel
theorem dX2_reckonOne_1 : decode cX2_reckonOne 1 = .ok (.getfield 12, 3) := by decide +kernel
theorem dX2_reckonOne_4 : decode cX2_reckonOne 4 = .ok (.getfield 74, 3) := by decide +kernel
theorem dX2_reckonOne_7 : decode cX2_reckonOne 7 = .ok (.iload_n 1, 1) := by decide +kernel
theorem dX2_reckonOne_8 : decode cX2_reckonOne 8 = .ok (.iaload, 1) := by decide +kernel
theorem dX2_reckonOne_9 : decode cX2_reckonOne 9 = .ok (.istore_n 3, 1) := by decide +kernel
theorem dX2_reckonOne_10 : decode cX2_reckonOne 10 = .ok (.aload_n 0, 1) := by decide +kernel
theorem dX2_reckonOne_11 : decode cX2_reckonOne 11 = .ok (.getfield 32, 3) := by decide +kernel
theorem dX2_reckonOne_14 : decode cX2_reckonOne 14 = .ok (.iload_n 1, 1) := by decide +kernel
theorem dX2_reckonOne_15 : decode cX2_reckonOne 15 = .ok (.iaload, 1) := by decide +kernel
theorem dX2_reckonOne_16 : decode cX2_reckonOne 16 = .ok (.istore 4, 2) := by decide +kernel
theorem dX2_reckonOne_18 : decode cX2_reckonOne 18 = .ok (.iconst 0, 1) := by decide +kernel
theorem dX2_reckonOne_19 : decode cX2_reckonOne 19 = .ok (.istore 5, 2) := by decide +kernel
theorem dX2_reckonOne_21 : decode cX2_reckonOne 21 = .ok (.iconst 0, 1) := by decide +kernel
theorem dX2_reckonOne_22 : decode cX2_reckonOne 22 = .ok (.istore 6, 2) := by decide +kernel
theorem dX2_reckonOne_24 : decode cX2_reckonOne 24 = .ok (.iconst 0, 1) := by decide +kernel
theorem dX2_reckonOne_25 : decode cX2_reckonOne 25 = .ok (.istore 7, 2) := by decide +kernel
theorem dX2_reckonOne_27 : decode cX2_reckonOne 27 = .ok (.iload 7, 2) := by decide +kernel
theorem dX2_reckonOne_29 : decode cX2_reckonOne 29 = .ok (.bipush 8, 2) := by decide +kernel
theorem dX2_reckonOne_31 : decode cX2_reckonOne 31 = .ok (.if_icmp .ge 72, 3) := by decide +kernel
theorem dX2_reckonOne_34 : decode cX2_reckonOne 34 = .ok (.iload 4, 2) := by decide +kernel
theorem dX2_reckonOne_36 : decode cX2_reckonOne 36 = .ok (.ifCond .le 67, 3) := by decide +kernel
theorem dX2_reckonOne_39 : decode cX2_reckonOne 39 = .ok (.aload_n 0, 1) := by decide +kernel
theorem dX2_reckonOne_40 : decode cX2_reckonOne 40 = .ok (.getfield 49, 3) := by decide +kernel
theorem dX2_reckonOne_43 : decode cX2_reckonOne 43 = .ok (.iload 7, 2) := by decide +kernel
theorem dX2_reckonOne_45 : decode cX2_reckonOne 45 = .ok (.iaload, 1) := by decide +kernel
theorem dX2_reckonOne_46 : decode cX2_reckonOne 46 = .ok (.istore 8, 2) := by decide +kernel
theorem dX2_reckonOne_48 : decode cX2_reckonOne 48 = .ok (.iload_n 3, 1) := by decide +kernel
theorem dX2_reckonOne_49 : decode cX2_reckonOne 49 = .ok (.iload 8, 2) := by decide +kernel
theorem dX2_reckonOne_51 : decode cX2_reckonOne 51 = .ok (.invokestatic 96, 3) := by decide +kernel
theorem dX2_reckonOne_54 : decode cX2_reckonOne 54 = .ok (.ifCond .eq 43, 3) := by decide +kernel
theorem dX2_reckonOne_57 : decode cX2_reckonOne 57 = .ok (.aload_n 0, 1) := by decide +kernel
theorem dX2_reckonOne_58 : decode cX2_reckonOne 58 = .ok (.getfield 28, 3) := by decide +kernel
theorem dX2_reckonOne_61 : decode cX2_reckonOne 61 = .ok (.iload 8, 2) := by decide +kernel
theorem dX2_reckonOne_63 : decode cX2_reckonOne 63 = .ok (.iload_n 2, 1) := by decide +kernel
theorem dX2_reckonOne_64 : decode cX2_reckonOne 64 = .ok (.invokevirtual 100, 3) := by decide +kernel
theorem dX2_reckonOne_67 : decode cX2_reckonOne 67 = .ok (.ifCond .eq 30, 3) := by decide +kernel
theorem dX2_reckonOne_70 : decode cX2_reckonOne 70 = .ok (.iload 5, 2) := by decide +kernel
theorem dX2_reckonOne_72 : decode cX2_reckonOne 72 = .ok (.iconst 1, 1) := by decide +kernel
theorem dX2_reckonOne_73 : decode cX2_reckonOne 73 = .ok (.iload 8, 2) := by decide +kernel
theorem dX2_reckonOne_75 : decode cX2_reckonOne 75 = .ok (.ishl, 1) := by decide +kernel
theorem dX2_reckonOne_76 : decode cX2_reckonOne 76 = .ok (.ior, 1) := by decide +kernel
theorem dX2_reckonOne_77 : decode cX2_reckonOne 77 = .ok (.istore 5, 2) := by decide +kernel
theorem dX2_reckonOne_79 : decode cX2_reckonOne 79 = .ok (.iload 6, 2) := by decide +kernel
theorem dX2_reckonOne_81 : decode cX2_reckonOne 81 = .ok (.aload_n 0, 1) := by decide +kernel
theorem dX2_reckonOne_82 : decode cX2_reckonOne 82 = .ok (.getfield 28, 3) := by decide +kernel
theorem dX2_reckonOne_85 : decode cX2_reckonOne 85 = .ok (.iload 8, 2) := by decide +kernel
theorem dX2_reckonOne_87 : decode cX2_reckonOne 87 = .ok (.iconst 2, 1) := by decide +kernel
theorem dX2_reckonOne_88 : decode cX2_reckonOne 88 = .ok (.invokevirtual 93, 3) := by decide +kernel
theorem dX2_reckonOne_91 : decode cX2_reckonOne 91 = .ok (.iadd, 1) := by decide +kernel
theorem dX2_reckonOne_92 : decode cX2_reckonOne 92 = .ok (.istore 6, 2) := by decide +kernel
theorem dX2_reckonOne_94 : decode cX2_reckonOne 94 = .ok (.iinc 4 (-1), 3) := by decide +kernel
theorem dX2_reckonOne_97 : decode cX2_reckonOne 97 = .ok (.iinc 7 1, 3) := by decide +kernel
theorem dX2_reckonOne_100 : decode cX2_reckonOne 100 = .ok (.goto (-73), 3) := by decide +kernel
theorem dX2_reckonOne_103 : decode cX2_reckonOne 103 = .ok (.aload_n 0, 1) := by decide +kernel
theorem dX2_reckonOne_104 : decode cX2_reckonOne 104 = .ok (.iload_n 1, 1) := by decide +kernel
theorem dX2_reckonOne_105 : decode cX2_reckonOne 105 = .ok (.iload_n 2, 1) := by decide +kernel
theorem dX2_reckonOne_106 : decode cX2_reckonOne 106 = .ok (.invokevirtual 103, 3) := by decide +kernel
theorem dX2_reckonOne_109 : decode cX2_reckonOne 109 = .ok (.ifCond .eq 16, 3) := by decide +kernel
theorem dX2_reckonOne_112 : decode cX2_reckonOne 112 = .ok (.aload_n 0, 1) := by decide +kernel
theorem dX2_reckonOne_113 : decode cX2_reckonOne 113 = .ok (.getfield 28, 3) := by decide +kernel
theorem dX2_reckonOne_116 : decode cX2_reckonOne 116 = .ok (.getfield 106, 3) := by decide +kernel
theorem dX2_reckonOne_119 : decode cX2_reckonOne 119 = .ok (.iconst 1, 1) := by decide +kernel
theorem dX2_reckonOne_120 : decode cX2_reckonOne 120 = .ok (.iaload, 1) := by decide +kernel
theorem dX2_reckonOne_121 : decode cX2_reckonOne 121 = .ok (.iconst 1, 1) := by decide +kernel
theorem dX2_reckonOne_122 : decode cX2_reckonOne 122 = .ok (.if_icmp .ne 7, 3) := by decide +kernel
theorem dX2_reckonOne_125 : decode cX2_reckonOne 125 = .ok (.iconst 1, 1) := by decide +kernel
theorem dX2_reckonOne_126 : decode cX2_reckonOne 126 = .ok (.goto 4, 3) := by decide +kernel
theorem dX2_reckonOne_129 : decode cX2_reckonOne 129 = .ok (.iconst 0, 1) := by decide +kernel
theorem dX2_reckonOne_130 : decode cX2_reckonOne 130 = .ok (.istore 7, 2) := by decide +kernel
theorem dX2_reckonOne_132 : decode cX2_reckonOne 132 = .ok (.aload_n 0, 1) := by decide +kernel
theorem dX2_reckonOne_133 : decode cX2_reckonOne 133 = .ok (.getfield 43, 3) := by decide +kernel
theorem dX2_reckonOne_136 : decode cX2_reckonOne 136 = .ok (.iload_n 1, 1) := by decide +kernel
theorem dX2_reckonOne_137 : decode cX2_reckonOne 137 = .ok (.bipush 8, 2) := by decide +kernel
theorem dX2_reckonOne_139 : decode cX2_reckonOne 139 = .ok (.imul, 1) := by decide +kernel
theorem dX2_reckonOne_140 : decode cX2_reckonOne 140 = .ok (.iload_n 2, 1) := by decide +kernel
theorem dX2_reckonOne_141 : decode cX2_reckonOne 141 = .ok (.iadd, 1) := by decide +kernel
theorem dX2_reckonOne_142 : decode cX2_reckonOne 142 = .ok (.iload 4, 2) := by decide +kernel
theorem dX2_reckonOne_144 : decode cX2_reckonOne 144 = .ok (.ifCond .ne 13, 3) := by decide +kernel
theorem dX2_reckonOne_147 : decode cX2_reckonOne 147 = .ok (.iload 7, 2) := by decide +kernel
theorem dX2_reckonOne_149 : decode cX2_reckonOne 149 = .ok (.ifCond .eq 8, 3) := by decide +kernel
theorem dX2_reckonOne_152 : decode cX2_reckonOne 152 = .ok (.iload 5, 2) := by decide +kernel
theorem dX2_reckonOne_154 : decode cX2_reckonOne 154 = .ok (.goto 4, 3) := by decide +kernel
theorem dX2_reckonOne_157 : decode cX2_reckonOne 157 = .ok (.iconst (-1), 1) := by decide +kernel
theorem dX2_reckonOne_158 : decode cX2_reckonOne 158 = .ok (.iastore, 1) := by decide +kernel
theorem dX2_reckonOne_159 : decode cX2_reckonOne 159 = .ok (.aload_n 0, 1) := by decide +kernel
theorem dX2_reckonOne_160 : decode cX2_reckonOne 160 = .ok (.getfield 46, 3) := by decide +kernel
theorem dX2_reckonOne_163 : decode cX2_reckonOne 163 = .ok (.iload_n 1, 1) := by decide +kernel
theorem dX2_reckonOne_164 : decode cX2_reckonOne 164 = .ok (.bipush 8, 2) := by decide +kernel
theorem dX2_reckonOne_166 : decode cX2_reckonOne 166 = .ok (.imul, 1) := by decide +kernel
theorem dX2_reckonOne_167 : decode cX2_reckonOne 167 = .ok (.iload_n 2, 1) := by decide +kernel
theorem dX2_reckonOne_168 : decode cX2_reckonOne 168 = .ok (.iadd, 1) := by decide +kernel
theorem dX2_reckonOne_169 : decode cX2_reckonOne 169 = .ok (.iload 6, 2) := by decide +kernel
theorem dX2_reckonOne_171 : decode cX2_reckonOne 171 = .ok (.iastore, 1) := by decide +kernel
theorem dX2_reckonOne_172 : decode cX2_reckonOne 172 = .ok (.return_, 1) := by decide +kernel
theorem dX2_isOpen_0 : decode cX2_isOpen 0 = .ok (.aload_n 0, 1) := by decide +kernel
theorem dX2_isOpen_1 : decode cX2_isOpen 1 = .ok (.getfield 43, 3) := by decide +kernel
theorem dX2_isOpen_4 : decode cX2_isOpen 4 = .ok (.iload_n 1, 1) := by decide +kernel
theorem dX2_isOpen_5 : decode cX2_isOpen 5 = .ok (.bipush 8, 2) := by decide +kernel
theorem dX2_isOpen_7 : decode cX2_isOpen 7 = .ok (.imul, 1) := by decide +kernel
theorem dX2_isOpen_8 : decode cX2_isOpen 8 = .ok (.iload_n 2, 1) := by decide +kernel
theorem dX2_isOpen_9 : decode cX2_isOpen 9 = .ok (.iadd, 1) := by decide +kernel
theorem dX2_isOpen_10 : decode cX2_isOpen 10 = .ok (.iaload, 1) := by decide +kernel
theorem dX2_isOpen_11 : decode cX2_isOpen 11 = .ok (.iconst (-1), 1) := by decide +kernel
theorem dX2_isOpen_12 : decode cX2_isOpen 12 = .ok (.if_icmp .eq 7, 3) := by decide +kernel
theorem dX2_isOpen_15 : decode cX2_isOpen 15 = .ok (.iconst 1, 1) := by decide +kernel
theorem dX2_isOpen_16 : decode cX2_isOpen 16 = .ok (.goto 4, 3) := by decide +kernel
theorem dX2_isOpen_19 : decode cX2_isOpen 19 = .ok (.iconst 0, 1) := by decide +kernel
theorem dX2_isOpen_20 : decode cX2_isOpen 20 = .ok (.ireturn, 1) := by decide +kernel
theorem dX2_whoComes_0 : decode cX2_whoComes 0 = .ok (.aload_n 0, 1) := by decide +kernel
theorem dX2_whoComes_1 : decode cX2_whoComes 1 = .ok (.getfield 43, 3) := by decide +kernel
theorem dX2_whoComes_4 : decode cX2_whoComes 4 = .ok (.iload_n 1, 1) := by decide +kernel
theorem dX2_whoComes_5 : decode cX2_whoComes 5 = .ok (.bipush 8, 2) := by decide +kernel
theorem dX2_whoComes_7 : decode cX2_whoComes 7 = .ok (.imul, 1) := by decide +kernel
theorem dX2_whoComes_8 : decode cX2_whoComes 8 = .ok (.iload_n 2, 1) := by decide +kernel
theorem dX2_whoComes_9 : decode cX2_whoComes 9 = .ok (.iadd, 1) := by decide +kernel
theorem dX2_whoComes_10 : decode cX2_whoComes 10 = .ok (.iaload, 1) := by decide +kernel
theorem dX2_whoComes_11 : decode cX2_whoComes 11 = .ok (.ireturn, 1) := by decide +kernel
theorem dX2_priceOfPeople_0 : decode cX2_priceOfPeople 0 = .ok (.aload_n 0, 1) := by decide +kernel
theorem dX2_priceOfPeople_1 : decode cX2_priceOfPeople 1 = .ok (.getfield 46, 3) := by decide +kernel
theorem dX2_priceOfPeople_4 : decode cX2_priceOfPeople 4 = .ok (.iload_n 1, 1) := by decide +kernel
theorem dX2_priceOfPeople_5 : decode cX2_priceOfPeople 5 = .ok (.bipush 8, 2) := by decide +kernel
theorem dX2_priceOfPeople_7 : decode cX2_priceOfPeople 7 = .ok (.imul, 1) := by decide +kernel
theorem dX2_priceOfPeople_8 : decode cX2_priceOfPeople 8 = .ok (.iload_n 2, 1) := by decide +kernel
theorem dX2_priceOfPeople_9 : decode cX2_priceOfPeople 9 = .ok (.iadd, 1) := by decide +kernel
theorem dX2_priceOfPeople_10 : decode cX2_priceOfPeople 10 = .ok (.iaload, 1) := by decide +kernel
theorem dX2_priceOfPeople_11 : decode cX2_priceOfPeople 11 = .ok (.ireturn, 1) := by decide +kernel
theorem dX2_fullPrice_0 : decode cX2_fullPrice 0 = .ok (.aload_n 0, 1) := by decide +kernel
theorem dX2_fullPrice_1 : decode cX2_fullPrice 1 = .ok (.iload_n 1, 1) := by decide +kernel
theorem dX2_fullPrice_2 : decode cX2_fullPrice 2 = .ok (.iload_n 2, 1) := by decide +kernel
theorem dX2_fullPrice_3 : decode cX2_fullPrice 3 = .ok (.invokevirtual 109, 3) := by decide +kernel
theorem dX2_fullPrice_6 : decode cX2_fullPrice 6 = .ok (.aload_n 0, 1) := by decide +kernel
theorem dX2_fullPrice_7 : decode cX2_fullPrice 7 = .ok (.iload_n 1, 1) := by decide +kernel
theorem dX2_fullPrice_8 : decode cX2_fullPrice 8 = .ok (.iload_n 2, 1) := by decide +kernel
theorem dX2_fullPrice_9 : decode cX2_fullPrice 9 = .ok (.invokevirtual 103, 3) := by decide +kernel
theorem dX2_fullPrice_12 : decode cX2_fullPrice 12 = .ok (.ifCond .eq 15, 3) := by decide +kernel
theorem dX2_fullPrice_15 : decode cX2_fullPrice 15 = .ok (.aload_n 0, 1) := by decide +kernel
theorem dX2_fullPrice_16 : decode cX2_fullPrice 16 = .ok (.getfield 28, 3) := by decide +kernel
theorem dX2_fullPrice_19 : decode cX2_fullPrice 19 = .ok (.getfield 106, 3) := by decide +kernel
theorem dX2_fullPrice_22 : decode cX2_fullPrice 22 = .ok (.iconst 0, 1) := by decide +kernel
theorem dX2_fullPrice_23 : decode cX2_fullPrice 23 = .ok (.iaload, 1) := by decide +kernel
theorem dX2_fullPrice_24 : decode cX2_fullPrice 24 = .ok (.goto 4, 3) := by decide +kernel
theorem dX2_fullPrice_27 : decode cX2_fullPrice 27 = .ok (.iconst 0, 1) := by decide +kernel
theorem dX2_fullPrice_28 : decode cX2_fullPrice 28 = .ok (.iadd, 1) := by decide +kernel
theorem dX2_fullPrice_29 : decode cX2_fullPrice 29 = .ok (.ireturn, 1) := by decide +kernel
theorem dX2_openHours_0 : decode cX2_openHours 0 = .ok (.iconst 0, 1) := by decide +kernel
theorem dX2_openHours_1 : decode cX2_openHours 1 = .ok (.istore_n 2, 1) := by decide +kernel
theorem dX2_openHours_2 : decode cX2_openHours 2 = .ok (.iconst 0, 1) := by decide +kernel
theorem dX2_openHours_3 : decode cX2_openHours 3 = .ok (.istore_n 3, 1) := by decide +kernel
theorem dX2_openHours_4 : decode cX2_openHours 4 = .ok (.iload_n 3, 1) := by decide +kernel
theorem dX2_openHours_5 : decode cX2_openHours 5 = .ok (.bipush 8, 2) := by decide +kernel
theorem dX2_openHours_7 : decode cX2_openHours 7 = .ok (.if_icmp .ge 24, 3) := by decide +kernel
theorem dX2_openHours_10 : decode cX2_openHours 10 = .ok (.aload_n 0, 1) := by decide +kernel
theorem dX2_openHours_11 : decode cX2_openHours 11 = .ok (.iload_n 1, 1) := by decide +kernel
theorem dX2_openHours_12 : decode cX2_openHours 12 = .ok (.iload_n 3, 1) := by decide +kernel
theorem dX2_openHours_13 : decode cX2_openHours 13 = .ok (.invokevirtual 112, 3) := by decide +kernel
theorem dX2_openHours_16 : decode cX2_openHours 16 = .ok (.ifCond .eq 9, 3) := by decide +kernel
theorem dX2_openHours_19 : decode cX2_openHours 19 = .ok (.iload_n 2, 1) := by decide +kernel
theorem dX2_openHours_20 : decode cX2_openHours 20 = .ok (.iconst 1, 1) := by decide +kernel
theorem dX2_openHours_21 : decode cX2_openHours 21 = .ok (.iload_n 3, 1) := by decide +kernel
theorem dX2_openHours_22 : decode cX2_openHours 22 = .ok (.ishl, 1) := by decide +kernel
theorem dX2_openHours_23 : decode cX2_openHours 23 = .ok (.ior, 1) := by decide +kernel
theorem dX2_openHours_24 : decode cX2_openHours 24 = .ok (.istore_n 2, 1) := by decide +kernel
theorem dX2_openHours_25 : decode cX2_openHours 25 = .ok (.iinc 3 1, 3) := by decide +kernel
theorem dX2_openHours_28 : decode cX2_openHours 28 = .ok (.goto (-24), 3) := by decide +kernel
theorem dX2_openHours_31 : decode cX2_openHours 31 = .ok (.iload_n 2, 1) := by decide +kernel
theorem dX2_openHours_32 : decode cX2_openHours 32 = .ok (.ireturn, 1) := by decide +kernel
theorem dX2_hopefulDeeds_0 : decode cX2_hopefulDeeds 0 = .ok (.iconst 0, 1) := by decide +kernel
theorem dX2_hopefulDeeds_1 : decode cX2_hopefulDeeds 1 = .ok (.istore_n 1, 1) := by decide +kernel
theorem dX2_hopefulDeeds_2 : decode cX2_hopefulDeeds 2 = .ok (.iconst 0, 1) := by decide +kernel
theorem dX2_hopefulDeeds_3 : decode cX2_hopefulDeeds 3 = .ok (.istore_n 2, 1) := by decide +kernel
theorem dX2_hopefulDeeds_4 : decode cX2_hopefulDeeds 4 = .ok (.iload_n 2, 1) := by decide +kernel
theorem dX2_hopefulDeeds_5 : decode cX2_hopefulDeeds 5 = .ok (.aload_n 0, 1) := by decide +kernel
theorem dX2_hopefulDeeds_6 : decode cX2_hopefulDeeds 6 = .ok (.getfield 12, 3) := by decide +kernel
theorem dX2_hopefulDeeds_9 : decode cX2_hopefulDeeds 9 = .ok (.getfield 55, 3) := by decide +kernel
theorem dX2_hopefulDeeds_12 : decode cX2_hopefulDeeds 12 = .ok (.if_icmp .ge 23, 3) := by decide +kernel
theorem dX2_hopefulDeeds_15 : decode cX2_hopefulDeeds 15 = .ok (.aload_n 0, 1) := by decide +kernel
theorem dX2_hopefulDeeds_16 : decode cX2_hopefulDeeds 16 = .ok (.iload_n 2, 1) := by decide +kernel
theorem dX2_hopefulDeeds_17 : decode cX2_hopefulDeeds 17 = .ok (.invokevirtual 115, 3) := by decide +kernel
theorem dX2_hopefulDeeds_20 : decode cX2_hopefulDeeds 20 = .ok (.ifCond .eq 9, 3) := by decide +kernel
theorem dX2_hopefulDeeds_23 : decode cX2_hopefulDeeds 23 = .ok (.iload_n 1, 1) := by decide +kernel
theorem dX2_hopefulDeeds_24 : decode cX2_hopefulDeeds 24 = .ok (.iconst 1, 1) := by decide +kernel
theorem dX2_hopefulDeeds_25 : decode cX2_hopefulDeeds 25 = .ok (.iload_n 2, 1) := by decide +kernel
theorem dX2_hopefulDeeds_26 : decode cX2_hopefulDeeds 26 = .ok (.ishl, 1) := by decide +kernel
theorem dX2_hopefulDeeds_27 : decode cX2_hopefulDeeds 27 = .ok (.ior, 1) := by decide +kernel
theorem dX2_hopefulDeeds_28 : decode cX2_hopefulDeeds 28 = .ok (.istore_n 1, 1) := by decide +kernel
theorem dX2_hopefulDeeds_29 : decode cX2_hopefulDeeds 29 = .ok (.iinc 2 1, 3) := by decide +kernel
theorem dX2_hopefulDeeds_32 : decode cX2_hopefulDeeds 32 = .ok (.goto (-28), 3) := by decide +kernel
theorem dX2_hopefulDeeds_35 : decode cX2_hopefulDeeds 35 = .ok (.iload_n 1, 1) := by decide +kernel
theorem dX2_hopefulDeeds_36 : decode cX2_hopefulDeeds 36 = .ok (.ireturn, 1) := by decide +kernel
theorem dX2_timesAsked_0 : decode cX2_timesAsked 0 = .ok (.iconst 0, 1) := by decide +kernel
theorem dX2_timesAsked_1 : decode cX2_timesAsked 1 = .ok (.istore_n 3, 1) := by decide +kernel
theorem dX2_timesAsked_2 : decode cX2_timesAsked 2 = .ok (.iconst 0, 1) := by decide +kernel
theorem dX2_timesAsked_3 : decode cX2_timesAsked 3 = .ok (.istore 4, 2) := by decide +kernel
theorem dX2_timesAsked_5 : decode cX2_timesAsked 5 = .ok (.iload 4, 2) := by decide +kernel
theorem dX2_timesAsked_7 : decode cX2_timesAsked 7 = .ok (.aload_n 0, 1) := by decide +kernel
theorem dX2_timesAsked_8 : decode cX2_timesAsked 8 = .ok (.getfield 12, 3) := by decide +kernel
theorem dX2_timesAsked_11 : decode cX2_timesAsked 11 = .ok (.getfield 55, 3) := by decide +kernel
theorem dX2_timesAsked_14 : decode cX2_timesAsked 14 = .ok (.if_icmp .ge 36, 3) := by decide +kernel
theorem dX2_timesAsked_17 : decode cX2_timesAsked 17 = .ok (.aload_n 0, 1) := by decide +kernel
theorem dX2_timesAsked_18 : decode cX2_timesAsked 18 = .ok (.iload 4, 2) := by decide +kernel
theorem dX2_timesAsked_20 : decode cX2_timesAsked 20 = .ok (.iload_n 2, 1) := by decide +kernel
theorem dX2_timesAsked_21 : decode cX2_timesAsked 21 = .ok (.invokevirtual 112, 3) := by decide +kernel
theorem dX2_timesAsked_24 : decode cX2_timesAsked 24 = .ok (.ifCond .eq 20, 3) := by decide +kernel
theorem dX2_timesAsked_27 : decode cX2_timesAsked 27 = .ok (.aload_n 0, 1) := by decide +kernel
theorem dX2_timesAsked_28 : decode cX2_timesAsked 28 = .ok (.iload 4, 2) := by decide +kernel
theorem dX2_timesAsked_30 : decode cX2_timesAsked 30 = .ok (.iload_n 2, 1) := by decide +kernel
theorem dX2_timesAsked_31 : decode cX2_timesAsked 31 = .ok (.invokevirtual 118, 3) := by decide +kernel
theorem dX2_timesAsked_34 : decode cX2_timesAsked 34 = .ok (.iload_n 1, 1) := by decide +kernel
theorem dX2_timesAsked_35 : decode cX2_timesAsked 35 = .ok (.invokestatic 96, 3) := by decide +kernel
theorem dX2_timesAsked_38 : decode cX2_timesAsked 38 = .ok (.ifCond .eq 6, 3) := by decide +kernel
theorem dX2_timesAsked_41 : decode cX2_timesAsked 41 = .ok (.iinc 3 1, 3) := by decide +kernel
theorem dX2_timesAsked_44 : decode cX2_timesAsked 44 = .ok (.iinc 4 1, 3) := by decide +kernel
theorem dX2_timesAsked_47 : decode cX2_timesAsked 47 = .ok (.goto (-42), 3) := by decide +kernel
theorem dX2_timesAsked_50 : decode cX2_timesAsked 50 = .ok (.iload_n 3, 1) := by decide +kernel
theorem dX2_timesAsked_51 : decode cX2_timesAsked 51 = .ok (.ireturn, 1) := by decide +kernel
theorem dX2_tenths_0 : decode cX2_tenths 0 = .ok (.aload_n 0, 1) := by decide +kernel
theorem dX2_tenths_1 : decode cX2_tenths 1 = .ok (.getfield 40, 3) := by decide +kernel
theorem dX2_tenths_4 : decode cX2_tenths 4 = .ok (.iload_n 1, 1) := by decide +kernel
theorem dX2_tenths_5 : decode cX2_tenths 5 = .ok (.baload, 1) := by decide +kernel
theorem dX2_tenths_6 : decode cX2_tenths 6 = .ok (.ifCond .eq 7, 3) := by decide +kernel
theorem dX2_tenths_9 : decode cX2_tenths 9 = .ok (.iconst 4, 1) := by decide +kernel
theorem dX2_tenths_10 : decode cX2_tenths 10 = .ok (.goto 4, 3) := by decide +kernel
theorem dX2_tenths_13 : decode cX2_tenths 13 = .ok (.iconst 0, 1) := by decide +kernel
theorem dX2_tenths_14 : decode cX2_tenths 14 = .ok (.istore_n 3, 1) := by decide +kernel
theorem dX2_tenths_15 : decode cX2_tenths 15 = .ok (.aload_n 0, 1) := by decide +kernel
theorem dX2_tenths_16 : decode cX2_tenths 16 = .ok (.getfield 36, 3) := by decide +kernel
theorem dX2_tenths_19 : decode cX2_tenths 19 = .ok (.iload_n 1, 1) := by decide +kernel
theorem dX2_tenths_20 : decode cX2_tenths 20 = .ok (.baload, 1) := by decide +kernel
theorem dX2_tenths_21 : decode cX2_tenths 21 = .ok (.ifCond .ne 24, 3) := by decide +kernel
theorem dX2_tenths_24 : decode cX2_tenths 24 = .ok (.aload_n 0, 1) := by decide +kernel
theorem dX2_tenths_25 : decode cX2_tenths 25 = .ok (.getfield 12, 3) := by decide +kernel
theorem dX2_tenths_28 : decode cX2_tenths 28 = .ok (.getfield 121, 3) := by decide +kernel
theorem dX2_tenths_31 : decode cX2_tenths 31 = .ok (.iload_n 1, 1) := by decide +kernel
theorem dX2_tenths_32 : decode cX2_tenths 32 = .ok (.iaload, 1) := by decide +kernel
theorem dX2_tenths_33 : decode cX2_tenths 33 = .ok (.aload_n 0, 1) := by decide +kernel
theorem dX2_tenths_34 : decode cX2_tenths 34 = .ok (.getfield 28, 3) := by decide +kernel
theorem dX2_tenths_37 : decode cX2_tenths 37 = .ok (.getfield 124, 3) := by decide +kernel
theorem dX2_tenths_40 : decode cX2_tenths 40 = .ok (.iload_n 2, 1) := by decide +kernel
theorem dX2_tenths_41 : decode cX2_tenths 41 = .ok (.iaload, 1) := by decide +kernel
theorem dX2_tenths_42 : decode cX2_tenths 42 = .ok (.if_icmp .ne 6, 3) := by decide +kernel
theorem dX2_tenths_45 : decode cX2_tenths 45 = .ok (.iinc 3 3, 3) := by decide +kernel
theorem dX2_tenths_48 : decode cX2_tenths 48 = .ok (.aload_n 0, 1) := by decide +kernel
theorem dX2_tenths_49 : decode cX2_tenths 49 = .ok (.getfield 12, 3) := by decide +kernel
theorem dX2_tenths_52 : decode cX2_tenths 52 = .ok (.getfield 74, 3) := by decide +kernel
theorem dX2_tenths_55 : decode cX2_tenths 55 = .ok (.iload_n 1, 1) := by decide +kernel
theorem dX2_tenths_56 : decode cX2_tenths 56 = .ok (.iaload, 1) := by decide +kernel
theorem dX2_tenths_57 : decode cX2_tenths 57 = .ok (.invokestatic 77, 3) := by decide +kernel
theorem dX2_tenths_60 : decode cX2_tenths 60 = .ok (.istore 4, 2) := by decide +kernel
theorem dX2_tenths_62 : decode cX2_tenths 62 = .ok (.iload 4, 2) := by decide +kernel
theorem dX2_tenths_64 : decode cX2_tenths 64 = .ok (.ifCond .ne 7, 3) := by decide +kernel
theorem dX2_tenths_67 : decode cX2_tenths 67 = .ok (.iload_n 3, 1) := by decide +kernel
theorem dX2_tenths_68 : decode cX2_tenths 68 = .ok (.goto 19, 3) := by decide +kernel
theorem dX2_tenths_71 : decode cX2_tenths 71 = .ok (.iload_n 3, 1) := by decide +kernel
theorem dX2_tenths_72 : decode cX2_tenths 72 = .ok (.iconst 3, 1) := by decide +kernel
theorem dX2_tenths_73 : decode cX2_tenths 73 = .ok (.aload_n 0, 1) := by decide +kernel
theorem dX2_tenths_74 : decode cX2_tenths 74 = .ok (.iload_n 1, 1) := by decide +kernel
theorem dX2_tenths_75 : decode cX2_tenths 75 = .ok (.iload_n 2, 1) := by decide +kernel
theorem dX2_tenths_76 : decode cX2_tenths 76 = .ok (.invokevirtual 118, 3) := by decide +kernel
theorem dX2_tenths_79 : decode cX2_tenths 79 = .ok (.invokestatic 77, 3) := by decide +kernel
theorem dX2_tenths_82 : decode cX2_tenths 82 = .ok (.imul, 1) := by decide +kernel
theorem dX2_tenths_83 : decode cX2_tenths 83 = .ok (.iload 4, 2) := by decide +kernel
theorem dX2_tenths_85 : decode cX2_tenths 85 = .ok (.idiv, 1) := by decide +kernel
theorem dX2_tenths_86 : decode cX2_tenths 86 = .ok (.iadd, 1) := by decide +kernel
theorem dX2_tenths_87 : decode cX2_tenths 87 = .ok (.ireturn, 1) := by decide +kernel
theorem dX2_isTurned_0 : decode cX2_isTurned 0 = .ok (.aload_n 0, 1) := by decide +kernel
theorem dX2_isTurned_1 : decode cX2_isTurned 1 = .ok (.getfield 36, 3) := by decide +kernel
theorem dX2_isTurned_4 : decode cX2_isTurned 4 = .ok (.iload_n 1, 1) := by decide +kernel
theorem dX2_isTurned_5 : decode cX2_isTurned 5 = .ok (.baload, 1) := by decide +kernel
theorem dX2_isTurned_6 : decode cX2_isTurned 6 = .ok (.ifCond .eq 28, 3) := by decide +kernel
theorem dX2_isTurned_9 : decode cX2_isTurned 9 = .ok (.aload_n 0, 1) := by decide +kernel
theorem dX2_isTurned_10 : decode cX2_isTurned 10 = .ok (.getfield 12, 3) := by decide +kernel
theorem dX2_isTurned_13 : decode cX2_isTurned 13 = .ok (.getfield 121, 3) := by decide +kernel
theorem dX2_isTurned_16 : decode cX2_isTurned 16 = .ok (.iload_n 1, 1) := by decide +kernel
theorem dX2_isTurned_17 : decode cX2_isTurned 17 = .ok (.iaload, 1) := by decide +kernel
theorem dX2_isTurned_18 : decode cX2_isTurned 18 = .ok (.aload_n 0, 1) := by decide +kernel
theorem dX2_isTurned_19 : decode cX2_isTurned 19 = .ok (.getfield 28, 3) := by decide +kernel
theorem dX2_isTurned_22 : decode cX2_isTurned 22 = .ok (.getfield 124, 3) := by decide +kernel
theorem dX2_isTurned_25 : decode cX2_isTurned 25 = .ok (.iload_n 2, 1) := by decide +kernel
theorem dX2_isTurned_26 : decode cX2_isTurned 26 = .ok (.iaload, 1) := by decide +kernel
theorem dX2_isTurned_27 : decode cX2_isTurned 27 = .ok (.if_icmp .eq 7, 3) := by decide +kernel
theorem dX2_isTurned_30 : decode cX2_isTurned 30 = .ok (.iconst 1, 1) := by decide +kernel
theorem dX2_isTurned_31 : decode cX2_isTurned 31 = .ok (.goto 4, 3) := by decide +kernel
theorem dX2_isTurned_34 : decode cX2_isTurned 34 = .ok (.iconst 0, 1) := by decide +kernel
theorem dX2_isTurned_35 : decode cX2_isTurned 35 = .ok (.ireturn, 1) := by decide +kernel
theorem dX2_areApart_0 : decode cX2_areApart 0 = .ok (.aload_n 0, 1) := by decide +kernel
theorem dX2_areApart_1 : decode cX2_areApart 1 = .ok (.getfield 43, 3) := by decide +kernel
theorem dX2_areApart_4 : decode cX2_areApart 4 = .ok (.iload_n 1, 1) := by decide +kernel
theorem dX2_areApart_5 : decode cX2_areApart 5 = .ok (.bipush 8, 2) := by decide +kernel
theorem dX2_areApart_7 : decode cX2_areApart 7 = .ok (.imul, 1) := by decide +kernel
theorem dX2_areApart_8 : decode cX2_areApart 8 = .ok (.iload_n 3, 1) := by decide +kernel
theorem dX2_areApart_9 : decode cX2_areApart 9 = .ok (.iadd, 1) := by decide +kernel
theorem dX2_areApart_10 : decode cX2_areApart 10 = .ok (.iaload, 1) := by decide +kernel
theorem dX2_areApart_11 : decode cX2_areApart 11 = .ok (.aload_n 0, 1) := by decide +kernel
theorem dX2_areApart_12 : decode cX2_areApart 12 = .ok (.getfield 43, 3) := by decide +kernel
theorem dX2_areApart_15 : decode cX2_areApart 15 = .ok (.iload_n 2, 1) := by decide +kernel
theorem dX2_areApart_16 : decode cX2_areApart 16 = .ok (.bipush 8, 2) := by decide +kernel
theorem dX2_areApart_18 : decode cX2_areApart 18 = .ok (.imul, 1) := by decide +kernel
theorem dX2_areApart_19 : decode cX2_areApart 19 = .ok (.iload_n 3, 1) := by decide +kernel
theorem dX2_areApart_20 : decode cX2_areApart 20 = .ok (.iadd, 1) := by decide +kernel
theorem dX2_areApart_21 : decode cX2_areApart 21 = .ok (.iaload, 1) := by decide +kernel
theorem dX2_areApart_22 : decode cX2_areApart 22 = .ok (.iand, 1) := by decide +kernel
theorem dX2_areApart_23 : decode cX2_areApart 23 = .ok (.ifCond .ne 81, 3) := by decide +kernel
theorem dX2_areApart_26 : decode cX2_areApart 26 = .ok (.aload_n 0, 1) := by decide +kernel
theorem dX2_areApart_27 : decode cX2_areApart 27 = .ok (.getfield 40, 3) := by decide +kernel
theorem dX2_areApart_30 : decode cX2_areApart 30 = .ok (.iload_n 1, 1) := by decide +kernel
theorem dX2_areApart_31 : decode cX2_areApart 31 = .ok (.baload, 1) := by decide +kernel
theorem dX2_areApart_32 : decode cX2_areApart 32 = .ok (.ifCond .eq 33, 3) := by decide +kernel
theorem dX2_areApart_35 : decode cX2_areApart 35 = .ok (.aload_n 0, 1) := by decide +kernel
theorem dX2_areApart_36 : decode cX2_areApart 36 = .ok (.getfield 40, 3) := by decide +kernel
theorem dX2_areApart_39 : decode cX2_areApart 39 = .ok (.iload_n 2, 1) := by decide +kernel
theorem dX2_areApart_40 : decode cX2_areApart 40 = .ok (.baload, 1) := by decide +kernel
theorem dX2_areApart_41 : decode cX2_areApart 41 = .ok (.ifCond .eq 24, 3) := by decide +kernel
theorem dX2_areApart_44 : decode cX2_areApart 44 = .ok (.aload_n 0, 1) := by decide +kernel
theorem dX2_areApart_45 : decode cX2_areApart 45 = .ok (.getfield 12, 3) := by decide +kernel
theorem dX2_areApart_48 : decode cX2_areApart 48 = .ok (.getfield 127, 3) := by decide +kernel
theorem dX2_areApart_51 : decode cX2_areApart 51 = .ok (.iload_n 1, 1) := by decide +kernel
theorem dX2_areApart_52 : decode cX2_areApart 52 = .ok (.iaload, 1) := by decide +kernel
theorem dX2_areApart_53 : decode cX2_areApart 53 = .ok (.aload_n 0, 1) := by decide +kernel
theorem dX2_areApart_54 : decode cX2_areApart 54 = .ok (.getfield 12, 3) := by decide +kernel
theorem dX2_areApart_57 : decode cX2_areApart 57 = .ok (.getfield 127, 3) := by decide +kernel
theorem dX2_areApart_60 : decode cX2_areApart 60 = .ok (.iload_n 2, 1) := by decide +kernel
theorem dX2_areApart_61 : decode cX2_areApart 61 = .ok (.iaload, 1) := by decide +kernel
theorem dX2_areApart_62 : decode cX2_areApart 62 = .ok (.if_icmp .eq 42, 3) := by decide +kernel
theorem dX2_areApart_65 : decode cX2_areApart 65 = .ok (.aload_n 0, 1) := by decide +kernel
theorem dX2_areApart_66 : decode cX2_areApart 66 = .ok (.getfield 36, 3) := by decide +kernel
theorem dX2_areApart_69 : decode cX2_areApart 69 = .ok (.iload_n 1, 1) := by decide +kernel
theorem dX2_areApart_70 : decode cX2_areApart 70 = .ok (.baload, 1) := by decide +kernel
theorem dX2_areApart_71 : decode cX2_areApart 71 = .ok (.ifCond .eq 37, 3) := by decide +kernel
theorem dX2_areApart_74 : decode cX2_areApart 74 = .ok (.aload_n 0, 1) := by decide +kernel
theorem dX2_areApart_75 : decode cX2_areApart 75 = .ok (.getfield 36, 3) := by decide +kernel
theorem dX2_areApart_78 : decode cX2_areApart 78 = .ok (.iload_n 2, 1) := by decide +kernel
theorem dX2_areApart_79 : decode cX2_areApart 79 = .ok (.baload, 1) := by decide +kernel
theorem dX2_areApart_80 : decode cX2_areApart 80 = .ok (.ifCond .eq 28, 3) := by decide +kernel
theorem dX2_areApart_83 : decode cX2_areApart 83 = .ok (.aload_n 0, 1) := by decide +kernel
theorem dX2_areApart_84 : decode cX2_areApart 84 = .ok (.getfield 12, 3) := by decide +kernel
theorem dX2_areApart_87 : decode cX2_areApart 87 = .ok (.getfield 121, 3) := by decide +kernel
theorem dX2_areApart_90 : decode cX2_areApart 90 = .ok (.iload_n 1, 1) := by decide +kernel
theorem dX2_areApart_91 : decode cX2_areApart 91 = .ok (.iaload, 1) := by decide +kernel
theorem dX2_areApart_92 : decode cX2_areApart 92 = .ok (.aload_n 0, 1) := by decide +kernel
theorem dX2_areApart_93 : decode cX2_areApart 93 = .ok (.getfield 12, 3) := by decide +kernel
theorem dX2_areApart_96 : decode cX2_areApart 96 = .ok (.getfield 121, 3) := by decide +kernel
theorem dX2_areApart_99 : decode cX2_areApart 99 = .ok (.iload_n 2, 1) := by decide +kernel
theorem dX2_areApart_100 : decode cX2_areApart 100 = .ok (.iaload, 1) := by decide +kernel
theorem dX2_areApart_101 : decode cX2_areApart 101 = .ok (.if_icmp .eq 7, 3) := by decide +kernel
theorem dX2_areApart_104 : decode cX2_areApart 104 = .ok (.iconst 1, 1) := by decide +kernel
theorem dX2_areApart_105 : decode cX2_areApart 105 = .ok (.goto 4, 3) := by decide +kernel
theorem dX2_areApart_108 : decode cX2_areApart 108 = .ok (.iconst 0, 1) := by decide +kernel
theorem dX2_areApart_109 : decode cX2_areApart 109 = .ok (.ireturn, 1) := by decide +kernel
theorem dX2_isPlan_0 : decode cX2_isPlan 0 = .ok (.iconst 0, 1) := by decide +kernel
theorem dX2_isPlan_1 : decode cX2_isPlan 1 = .ok (.istore_n 2, 1) := by decide +kernel
theorem dX2_isPlan_2 : decode cX2_isPlan 2 = .ok (.iload_n 2, 1) := by decide +kernel
theorem dX2_isPlan_3 : decode cX2_isPlan 3 = .ok (.aload_n 0, 1) := by decide +kernel
theorem dX2_isPlan_4 : decode cX2_isPlan 4 = .ok (.getfield 12, 3) := by decide +kernel
theorem dX2_isPlan_7 : decode cX2_isPlan 7 = .ok (.getfield 55, 3) := by decide +kernel
theorem dX2_isPlan_10 : decode cX2_isPlan 10 = .ok (.if_icmp .ge 27, 3) := by decide +kernel
theorem dX2_isPlan_13 : decode cX2_isPlan 13 = .ok (.aload_n 1, 1) := by decide +kernel
theorem dX2_isPlan_14 : decode cX2_isPlan 14 = .ok (.iload_n 2, 1) := by decide +kernel
theorem dX2_isPlan_15 : decode cX2_isPlan 15 = .ok (.iaload, 1) := by decide +kernel
theorem dX2_isPlan_16 : decode cX2_isPlan 16 = .ok (.iconst (-1), 1) := by decide +kernel
theorem dX2_isPlan_17 : decode cX2_isPlan 17 = .ok (.if_icmp .eq 14, 3) := by decide +kernel
theorem dX2_isPlan_20 : decode cX2_isPlan 20 = .ok (.aload_n 0, 1) := by decide +kernel
theorem dX2_isPlan_21 : decode cX2_isPlan 21 = .ok (.aload_n 1, 1) := by decide +kernel
theorem dX2_isPlan_22 : decode cX2_isPlan 22 = .ok (.iload_n 2, 1) := by decide +kernel
theorem dX2_isPlan_23 : decode cX2_isPlan 23 = .ok (.invokevirtual 130, 3) := by decide +kernel
theorem dX2_isPlan_26 : decode cX2_isPlan 26 = .ok (.ifCond .ne 5, 3) := by decide +kernel
theorem dX2_isPlan_29 : decode cX2_isPlan 29 = .ok (.iconst 0, 1) := by decide +kernel
theorem dX2_isPlan_30 : decode cX2_isPlan 30 = .ok (.ireturn, 1) := by decide +kernel
theorem dX2_isPlan_31 : decode cX2_isPlan 31 = .ok (.iinc 2 1, 3) := by decide +kernel
theorem dX2_isPlan_34 : decode cX2_isPlan 34 = .ok (.goto (-32), 3) := by decide +kernel
theorem dX2_isPlan_37 : decode cX2_isPlan 37 = .ok (.iconst 1, 1) := by decide +kernel
theorem dX2_isPlan_38 : decode cX2_isPlan 38 = .ok (.ireturn, 1) := by decide +kernel
theorem dX2_fitsBehind_0 : decode cX2_fitsBehind 0 = .ok (.aload_n 1, 1) := by decide +kernel
theorem dX2_fitsBehind_1 : decode cX2_fitsBehind 1 = .ok (.iload_n 2, 1) := by decide +kernel
theorem dX2_fitsBehind_2 : decode cX2_fitsBehind 2 = .ok (.iaload, 1) := by decide +kernel
theorem dX2_fitsBehind_3 : decode cX2_fitsBehind 3 = .ok (.istore_n 3, 1) := by decide +kernel
theorem dX2_fitsBehind_4 : decode cX2_fitsBehind 4 = .ok (.iload_n 3, 1) := by decide +kernel
theorem dX2_fitsBehind_5 : decode cX2_fitsBehind 5 = .ok (.bipush 7, 2) := by decide +kernel
theorem dX2_fitsBehind_7 : decode cX2_fitsBehind 7 = .ok (.invokestatic 134, 3) := by decide +kernel
theorem dX2_fitsBehind_10 : decode cX2_fitsBehind 10 = .ok (.ifCond .eq 12, 3) := by decide +kernel
theorem dX2_fitsBehind_13 : decode cX2_fitsBehind 13 = .ok (.aload_n 0, 1) := by decide +kernel
theorem dX2_fitsBehind_14 : decode cX2_fitsBehind 14 = .ok (.iload_n 2, 1) := by decide +kernel
theorem dX2_fitsBehind_15 : decode cX2_fitsBehind 15 = .ok (.iload_n 3, 1) := by decide +kernel
theorem dX2_fitsBehind_16 : decode cX2_fitsBehind 16 = .ok (.invokevirtual 112, 3) := by decide +kernel
theorem dX2_fitsBehind_19 : decode cX2_fitsBehind 19 = .ok (.ifCond .ne 5, 3) := by decide +kernel
theorem dX2_fitsBehind_22 : decode cX2_fitsBehind 22 = .ok (.iconst 0, 1) := by decide +kernel
theorem dX2_fitsBehind_23 : decode cX2_fitsBehind 23 = .ok (.ireturn, 1) := by decide +kernel
theorem dX2_fitsBehind_24 : decode cX2_fitsBehind 24 = .ok (.iconst 0, 1) := by decide +kernel
theorem dX2_fitsBehind_25 : decode cX2_fitsBehind 25 = .ok (.istore 4, 2) := by decide +kernel
theorem dX2_fitsBehind_27 : decode cX2_fitsBehind 27 = .ok (.iload 4, 2) := by decide +kernel
theorem dX2_fitsBehind_29 : decode cX2_fitsBehind 29 = .ok (.iload_n 2, 1) := by decide +kernel
theorem dX2_fitsBehind_30 : decode cX2_fitsBehind 30 = .ok (.if_icmp .ge 30, 3) := by decide +kernel
theorem dX2_fitsBehind_33 : decode cX2_fitsBehind 33 = .ok (.aload_n 1, 1) := by decide +kernel
theorem dX2_fitsBehind_34 : decode cX2_fitsBehind 34 = .ok (.iload 4, 2) := by decide +kernel
theorem dX2_fitsBehind_36 : decode cX2_fitsBehind 36 = .ok (.iaload, 1) := by decide +kernel
theorem dX2_fitsBehind_37 : decode cX2_fitsBehind 37 = .ok (.iload_n 3, 1) := by decide +kernel
theorem dX2_fitsBehind_38 : decode cX2_fitsBehind 38 = .ok (.if_icmp .ne 16, 3) := by decide +kernel
theorem dX2_fitsBehind_41 : decode cX2_fitsBehind 41 = .ok (.aload_n 0, 1) := by decide +kernel
theorem dX2_fitsBehind_42 : decode cX2_fitsBehind 42 = .ok (.iload_n 2, 1) := by decide +kernel
theorem dX2_fitsBehind_43 : decode cX2_fitsBehind 43 = .ok (.iload 4, 2) := by decide +kernel
theorem dX2_fitsBehind_45 : decode cX2_fitsBehind 45 = .ok (.iload_n 3, 1) := by decide +kernel
theorem dX2_fitsBehind_46 : decode cX2_fitsBehind 46 = .ok (.invokevirtual 137, 3) := by decide +kernel
theorem dX2_fitsBehind_49 : decode cX2_fitsBehind 49 = .ok (.ifCond .eq 5, 3) := by decide +kernel
theorem dX2_fitsBehind_52 : decode cX2_fitsBehind 52 = .ok (.iconst 0, 1) := by decide +kernel
theorem dX2_fitsBehind_53 : decode cX2_fitsBehind 53 = .ok (.ireturn, 1) := by decide +kernel
theorem dX2_fitsBehind_54 : decode cX2_fitsBehind 54 = .ok (.iinc 4 1, 3) := by decide +kernel
theorem dX2_fitsBehind_57 : decode cX2_fitsBehind 57 = .ok (.goto (-30), 3) := by decide +kernel
theorem dX2_fitsBehind_60 : decode cX2_fitsBehind 60 = .ok (.iconst 1, 1) := by decide +kernel
theorem dX2_fitsBehind_61 : decode cX2_fitsBehind 61 = .ok (.ireturn, 1) := by decide +kernel
theorem dX2_worthOfPlan_0 : decode cX2_worthOfPlan 0 = .ok (.iconst 0, 1) := by decide +kernel
theorem dX2_worthOfPlan_1 : decode cX2_worthOfPlan 1 = .ok (.istore_n 2, 1) := by decide +kernel
theorem dX2_worthOfPlan_2 : decode cX2_worthOfPlan 2 = .ok (.iconst 0, 1) := by decide +kernel
theorem dX2_worthOfPlan_3 : decode cX2_worthOfPlan 3 = .ok (.istore_n 3, 1) := by decide +kernel
theorem dX2_worthOfPlan_4 : decode cX2_worthOfPlan 4 = .ok (.iload_n 3, 1) := by decide +kernel
theorem dX2_worthOfPlan_5 : decode cX2_worthOfPlan 5 = .ok (.aload_n 0, 1) := by decide +kernel
theorem dX2_worthOfPlan_6 : decode cX2_worthOfPlan 6 = .ok (.getfield 12, 3) := by decide +kernel
theorem dX2_worthOfPlan_9 : decode cX2_worthOfPlan 9 = .ok (.getfield 55, 3) := by decide +kernel
theorem dX2_worthOfPlan_12 : decode cX2_worthOfPlan 12 = .ok (.if_icmp .ge 28, 3) := by decide +kernel
theorem dX2_worthOfPlan_15 : decode cX2_worthOfPlan 15 = .ok (.aload_n 1, 1) := by decide +kernel
theorem dX2_worthOfPlan_16 : decode cX2_worthOfPlan 16 = .ok (.iload_n 3, 1) := by decide +kernel
theorem dX2_worthOfPlan_17 : decode cX2_worthOfPlan 17 = .ok (.iaload, 1) := by decide +kernel
theorem dX2_worthOfPlan_18 : decode cX2_worthOfPlan 18 = .ok (.iconst (-1), 1) := by decide +kernel
theorem dX2_worthOfPlan_19 : decode cX2_worthOfPlan 19 = .ok (.if_icmp .eq 15, 3) := by decide +kernel
theorem dX2_worthOfPlan_22 : decode cX2_worthOfPlan 22 = .ok (.iload_n 2, 1) := by decide +kernel
theorem dX2_worthOfPlan_23 : decode cX2_worthOfPlan 23 = .ok (.aload_n 0, 1) := by decide +kernel
theorem dX2_worthOfPlan_24 : decode cX2_worthOfPlan 24 = .ok (.getfield 12, 3) := by decide +kernel
theorem dX2_worthOfPlan_27 : decode cX2_worthOfPlan 27 = .ok (.getfield 141, 3) := by decide +kernel
theorem dX2_worthOfPlan_30 : decode cX2_worthOfPlan 30 = .ok (.iload_n 3, 1) := by decide +kernel
theorem dX2_worthOfPlan_31 : decode cX2_worthOfPlan 31 = .ok (.iaload, 1) := by decide +kernel
theorem dX2_worthOfPlan_32 : decode cX2_worthOfPlan 32 = .ok (.iadd, 1) := by decide +kernel
theorem dX2_worthOfPlan_33 : decode cX2_worthOfPlan 33 = .ok (.istore_n 2, 1) := by decide +kernel
theorem dX2_worthOfPlan_34 : decode cX2_worthOfPlan 34 = .ok (.iinc 3 1, 3) := by decide +kernel
theorem dX2_worthOfPlan_37 : decode cX2_worthOfPlan 37 = .ok (.goto (-33), 3) := by decide +kernel
theorem dX2_worthOfPlan_40 : decode cX2_worthOfPlan 40 = .ok (.iload_n 2, 1) := by decide +kernel
theorem dX2_worthOfPlan_41 : decode cX2_worthOfPlan 41 = .ok (.ireturn, 1) := by decide +kernel
theorem dX2_costOfPlan_0 : decode cX2_costOfPlan 0 = .ok (.iconst 0, 1) := by decide +kernel
theorem dX2_costOfPlan_1 : decode cX2_costOfPlan 1 = .ok (.istore_n 2, 1) := by decide +kernel
theorem dX2_costOfPlan_2 : decode cX2_costOfPlan 2 = .ok (.iconst 0, 1) := by decide +kernel
theorem dX2_costOfPlan_3 : decode cX2_costOfPlan 3 = .ok (.istore_n 3, 1) := by decide +kernel
theorem dX2_costOfPlan_4 : decode cX2_costOfPlan 4 = .ok (.iconst 0, 1) := by decide +kernel
theorem dX2_costOfPlan_5 : decode cX2_costOfPlan 5 = .ok (.istore 4, 2) := by decide +kernel
theorem dX2_costOfPlan_7 : decode cX2_costOfPlan 7 = .ok (.iload 4, 2) := by decide +kernel
theorem dX2_costOfPlan_9 : decode cX2_costOfPlan 9 = .ok (.aload_n 0, 1) := by decide +kernel
theorem dX2_costOfPlan_10 : decode cX2_costOfPlan 10 = .ok (.getfield 12, 3) := by decide +kernel
theorem dX2_costOfPlan_13 : decode cX2_costOfPlan 13 = .ok (.getfield 55, 3) := by decide +kernel
theorem dX2_costOfPlan_16 : decode cX2_costOfPlan 16 = .ok (.if_icmp .ge 58, 3) := by decide +kernel
theorem dX2_costOfPlan_19 : decode cX2_costOfPlan 19 = .ok (.aload_n 1, 1) := by decide +kernel
theorem dX2_costOfPlan_20 : decode cX2_costOfPlan 20 = .ok (.iload 4, 2) := by decide +kernel
theorem dX2_costOfPlan_22 : decode cX2_costOfPlan 22 = .ok (.iaload, 1) := by decide +kernel
theorem dX2_costOfPlan_23 : decode cX2_costOfPlan 23 = .ok (.istore 5, 2) := by decide +kernel
theorem dX2_costOfPlan_25 : decode cX2_costOfPlan 25 = .ok (.iload 5, 2) := by decide +kernel
theorem dX2_costOfPlan_27 : decode cX2_costOfPlan 27 = .ok (.bipush 7, 2) := by decide +kernel
theorem dX2_costOfPlan_29 : decode cX2_costOfPlan 29 = .ok (.invokestatic 134, 3) := by decide +kernel
theorem dX2_costOfPlan_32 : decode cX2_costOfPlan 32 = .ok (.ifCond .eq 36, 3) := by decide +kernel
theorem dX2_costOfPlan_35 : decode cX2_costOfPlan 35 = .ok (.iload_n 2, 1) := by decide +kernel
theorem dX2_costOfPlan_36 : decode cX2_costOfPlan 36 = .ok (.aload_n 0, 1) := by decide +kernel
theorem dX2_costOfPlan_37 : decode cX2_costOfPlan 37 = .ok (.iload 4, 2) := by decide +kernel
theorem dX2_costOfPlan_39 : decode cX2_costOfPlan 39 = .ok (.iload 5, 2) := by decide +kernel
theorem dX2_costOfPlan_41 : decode cX2_costOfPlan 41 = .ok (.invokevirtual 109, 3) := by decide +kernel
theorem dX2_costOfPlan_44 : decode cX2_costOfPlan 44 = .ok (.iadd, 1) := by decide +kernel
theorem dX2_costOfPlan_45 : decode cX2_costOfPlan 45 = .ok (.istore_n 2, 1) := by decide +kernel
theorem dX2_costOfPlan_46 : decode cX2_costOfPlan 46 = .ok (.iload_n 3, 1) := by decide +kernel
theorem dX2_costOfPlan_47 : decode cX2_costOfPlan 47 = .ok (.aload_n 0, 1) := by decide +kernel
theorem dX2_costOfPlan_48 : decode cX2_costOfPlan 48 = .ok (.iload 4, 2) := by decide +kernel
theorem dX2_costOfPlan_50 : decode cX2_costOfPlan 50 = .ok (.iload 5, 2) := by decide +kernel
theorem dX2_costOfPlan_52 : decode cX2_costOfPlan 52 = .ok (.invokevirtual 103, 3) := by decide +kernel
theorem dX2_costOfPlan_55 : decode cX2_costOfPlan 55 = .ok (.ifCond .eq 10, 3) := by decide +kernel
theorem dX2_costOfPlan_58 : decode cX2_costOfPlan 58 = .ok (.iconst 1, 1) := by decide +kernel
theorem dX2_costOfPlan_59 : decode cX2_costOfPlan 59 = .ok (.iload 5, 2) := by decide +kernel
theorem dX2_costOfPlan_61 : decode cX2_costOfPlan 61 = .ok (.ishl, 1) := by decide +kernel
theorem dX2_costOfPlan_62 : decode cX2_costOfPlan 62 = .ok (.goto 4, 3) := by decide +kernel
theorem dX2_costOfPlan_65 : decode cX2_costOfPlan 65 = .ok (.iconst 0, 1) := by decide +kernel
theorem dX2_costOfPlan_66 : decode cX2_costOfPlan 66 = .ok (.ior, 1) := by decide +kernel
theorem dX2_costOfPlan_67 : decode cX2_costOfPlan 67 = .ok (.istore_n 3, 1) := by decide +kernel
theorem dX2_costOfPlan_68 : decode cX2_costOfPlan 68 = .ok (.iinc 4 1, 3) := by decide +kernel
theorem dX2_costOfPlan_71 : decode cX2_costOfPlan 71 = .ok (.goto (-64), 3) := by decide +kernel
theorem dX2_costOfPlan_74 : decode cX2_costOfPlan 74 = .ok (.iload_n 2, 1) := by decide +kernel
theorem dX2_costOfPlan_75 : decode cX2_costOfPlan 75 = .ok (.iload_n 3, 1) := by decide +kernel
theorem dX2_costOfPlan_76 : decode cX2_costOfPlan 76 = .ok (.invokestatic 77, 3) := by decide +kernel
theorem dX2_costOfPlan_79 : decode cX2_costOfPlan 79 = .ok (.aload_n 0, 1) := by decide +kernel
theorem dX2_costOfPlan_80 : decode cX2_costOfPlan 80 = .ok (.getfield 28, 3) := by decide +kernel
theorem dX2_costOfPlan_83 : decode cX2_costOfPlan 83 = .ok (.getfield 106, 3) := by decide +kernel
theorem dX2_costOfPlan_86 : decode cX2_costOfPlan 86 = .ok (.iconst 0, 1) := by decide +kernel
theorem dX2_costOfPlan_87 : decode cX2_costOfPlan 87 = .ok (.iaload, 1) := by decide +kernel
theorem dX2_costOfPlan_88 : decode cX2_costOfPlan 88 = .ok (.imul, 1) := by decide +kernel
theorem dX2_costOfPlan_89 : decode cX2_costOfPlan 89 = .ok (.iadd, 1) := by decide +kernel
theorem dX2_costOfPlan_90 : decode cX2_costOfPlan 90 = .ok (.ireturn, 1) := by decide +kernel
theorem dX3_init_0 : decode cX3_init 0 = .ok (.aload_n 0, 1) := by decide +kernel
theorem dX3_init_1 : decode cX3_init 1 = .ok (.invokespecial 3, 3) := by decide +kernel
theorem dX3_init_4 : decode cX3_init 4 = .ok (.aload_n 0, 1) := by decide +kernel
theorem dX3_init_5 : decode cX3_init 5 = .ok (.bipush 10, 2) := by decide +kernel
theorem dX3_init_7 : decode cX3_init 7 = .ok (.newarray .int, 2) := by decide +kernel
theorem dX3_init_9 : decode cX3_init 9 = .ok (.putfield 11, 3) := by decide +kernel
theorem dX3_init_12 : decode cX3_init 12 = .ok (.aload_n 0, 1) := by decide +kernel
theorem dX3_init_13 : decode cX3_init 13 = .ok (.bipush 10, 2) := by decide +kernel
theorem dX3_init_15 : decode cX3_init 15 = .ok (.newarray .int, 2) := by decide +kernel
theorem dX3_init_17 : decode cX3_init 17 = .ok (.putfield 15, 3) := by decide +kernel
theorem dX3_init_20 : decode cX3_init 20 = .ok (.return_, 1) := by decide +kernel
theorem dX3_isFull_0 : decode cX3_isFull 0 = .ok (.aload_n 0, 1) := by decide +kernel
theorem dX3_isFull_1 : decode cX3_isFull 1 = .ok (.getfield 18, 3) := by decide +kernel
theorem dX3_isFull_4 : decode cX3_isFull 4 = .ok (.bipush 10, 2) := by decide +kernel
theorem dX3_isFull_6 : decode cX3_isFull 6 = .ok (.if_icmp .lt 7, 3) := by decide +kernel
theorem dX3_isFull_9 : decode cX3_isFull 9 = .ok (.iconst 1, 1) := by decide +kernel
theorem dX3_isFull_10 : decode cX3_isFull 10 = .ok (.goto 4, 3) := by decide +kernel
theorem dX3_isFull_13 : decode cX3_isFull 13 = .ok (.iconst 0, 1) := by decide +kernel
theorem dX3_isFull_14 : decode cX3_isFull 14 = .ok (.ireturn, 1) := by decide +kernel
theorem dX3_add_0 : decode cX3_add 0 = .ok (.aload_n 0, 1) := by decide +kernel
theorem dX3_add_1 : decode cX3_add 1 = .ok (.getfield 18, 3) := by decide +kernel
theorem dX3_add_4 : decode cX3_add 4 = .ok (.bipush 10, 2) := by decide +kernel
theorem dX3_add_6 : decode cX3_add 6 = .ok (.if_icmp .ge 33, 3) := by decide +kernel
theorem dX3_add_9 : decode cX3_add 9 = .ok (.aload_n 0, 1) := by decide +kernel
theorem dX3_add_10 : decode cX3_add 10 = .ok (.getfield 11, 3) := by decide +kernel
theorem dX3_add_13 : decode cX3_add 13 = .ok (.aload_n 0, 1) := by decide +kernel
theorem dX3_add_14 : decode cX3_add 14 = .ok (.getfield 18, 3) := by decide +kernel
theorem dX3_add_17 : decode cX3_add 17 = .ok (.iload_n 1, 1) := by decide +kernel
theorem dX3_add_18 : decode cX3_add 18 = .ok (.iastore, 1) := by decide +kernel
theorem dX3_add_19 : decode cX3_add 19 = .ok (.aload_n 0, 1) := by decide +kernel
theorem dX3_add_20 : decode cX3_add 20 = .ok (.getfield 15, 3) := by decide +kernel
theorem dX3_add_23 : decode cX3_add 23 = .ok (.aload_n 0, 1) := by decide +kernel
theorem dX3_add_24 : decode cX3_add 24 = .ok (.getfield 18, 3) := by decide +kernel
theorem dX3_add_27 : decode cX3_add 27 = .ok (.iload_n 2, 1) := by decide +kernel
theorem dX3_add_28 : decode cX3_add 28 = .ok (.iastore, 1) := by decide +kernel
theorem dX3_add_29 : decode cX3_add 29 = .ok (.aload_n 0, 1) := by decide +kernel
theorem dX3_add_30 : decode cX3_add 30 = .ok (.dup, 1) := by decide +kernel
theorem dX3_add_31 : decode cX3_add 31 = .ok (.getfield 18, 3) := by decide +kernel
theorem dX3_add_34 : decode cX3_add 34 = .ok (.iconst 1, 1) := by decide +kernel
theorem dX3_add_35 : decode cX3_add 35 = .ok (.iadd, 1) := by decide +kernel
theorem dX3_add_36 : decode cX3_add 36 = .ok (.putfield 18, 3) := by decide +kernel
theorem dX3_add_39 : decode cX3_add 39 = .ok (.aload_n 0, 1) := by decide +kernel
theorem dX3_add_40 : decode cX3_add 40 = .ok (.getfield 18, 3) := by decide +kernel
theorem dX3_add_43 : decode cX3_add 43 = .ok (.ireturn, 1) := by decide +kernel
theorem dX3_clear_0 : decode cX3_clear 0 = .ok (.aload_n 0, 1) := by decide +kernel
theorem dX3_clear_1 : decode cX3_clear 1 = .ok (.getfield 18, 3) := by decide +kernel
theorem dX3_clear_4 : decode cX3_clear 4 = .ok (.istore_n 1, 1) := by decide +kernel
theorem dX3_clear_5 : decode cX3_clear 5 = .ok (.aload_n 0, 1) := by decide +kernel
theorem dX3_clear_6 : decode cX3_clear 6 = .ok (.iconst 0, 1) := by decide +kernel
theorem dX3_clear_7 : decode cX3_clear 7 = .ok (.putfield 18, 3) := by decide +kernel
theorem dX3_clear_10 : decode cX3_clear 10 = .ok (.iload_n 1, 1) := by decide +kernel
theorem dX3_clear_11 : decode cX3_clear 11 = .ok (.ireturn, 1) := by decide +kernel
theorem dX3_reached_0 : decode cX3_reached 0 = .ok (.iload_n 1, 1) := by decide +kernel
theorem dX3_reached_1 : decode cX3_reached 1 = .ok (.istore_n 3, 1) := by decide +kernel
theorem dX3_reached_2 : decode cX3_reached 2 = .ok (.iconst 0, 1) := by decide +kernel
theorem dX3_reached_3 : decode cX3_reached 3 = .ok (.istore 4, 2) := by decide +kernel
theorem dX3_reached_5 : decode cX3_reached 5 = .ok (.iload 4, 2) := by decide +kernel
theorem dX3_reached_7 : decode cX3_reached 7 = .ok (.bipush 8, 2) := by decide +kernel
theorem dX3_reached_9 : decode cX3_reached 9 = .ok (.if_icmp .ge 81, 3) := by decide +kernel
theorem dX3_reached_12 : decode cX3_reached 12 = .ok (.iconst 0, 1) := by decide +kernel
theorem dX3_reached_13 : decode cX3_reached 13 = .ok (.istore 5, 2) := by decide +kernel
theorem dX3_reached_15 : decode cX3_reached 15 = .ok (.iload 5, 2) := by decide +kernel
theorem dX3_reached_17 : decode cX3_reached 17 = .ok (.aload_n 0, 1) := by decide +kernel
theorem dX3_reached_18 : decode cX3_reached 18 = .ok (.getfield 18, 3) := by decide +kernel
theorem dX3_reached_21 : decode cX3_reached 21 = .ok (.if_icmp .ge 63, 3) := by decide +kernel
theorem dX3_reached_24 : decode cX3_reached 24 = .ok (.iload_n 3, 1) := by decide +kernel
theorem dX3_reached_25 : decode cX3_reached 25 = .ok (.aload_n 0, 1) := by decide +kernel
theorem dX3_reached_26 : decode cX3_reached 26 = .ok (.getfield 11, 3) := by decide +kernel
theorem dX3_reached_29 : decode cX3_reached 29 = .ok (.iload 5, 2) := by decide +kernel
theorem dX3_reached_31 : decode cX3_reached 31 = .ok (.iaload, 1) := by decide +kernel
theorem dX3_reached_32 : decode cX3_reached 32 = .ok (.invokestatic 22, 3) := by decide +kernel
theorem dX3_reached_35 : decode cX3_reached 35 = .ok (.ifCond .eq 43, 3) := by decide +kernel
theorem dX3_reached_38 : decode cX3_reached 38 = .ok (.iload_n 2, 1) := by decide +kernel
theorem dX3_reached_39 : decode cX3_reached 39 = .ok (.aload_n 0, 1) := by decide +kernel
theorem dX3_reached_40 : decode cX3_reached 40 = .ok (.getfield 11, 3) := by decide +kernel
theorem dX3_reached_43 : decode cX3_reached 43 = .ok (.iload 5, 2) := by decide +kernel
theorem dX3_reached_45 : decode cX3_reached 45 = .ok (.iaload, 1) := by decide +kernel
theorem dX3_reached_46 : decode cX3_reached 46 = .ok (.invokestatic 22, 3) := by decide +kernel
theorem dX3_reached_49 : decode cX3_reached 49 = .ok (.ifCond .eq 29, 3) := by decide +kernel
theorem dX3_reached_52 : decode cX3_reached 52 = .ok (.iload_n 2, 1) := by decide +kernel
theorem dX3_reached_53 : decode cX3_reached 53 = .ok (.aload_n 0, 1) := by decide +kernel
theorem dX3_reached_54 : decode cX3_reached 54 = .ok (.getfield 15, 3) := by decide +kernel
theorem dX3_reached_57 : decode cX3_reached 57 = .ok (.iload 5, 2) := by decide +kernel
theorem dX3_reached_59 : decode cX3_reached 59 = .ok (.iaload, 1) := by decide +kernel
theorem dX3_reached_60 : decode cX3_reached 60 = .ok (.invokestatic 22, 3) := by decide +kernel
theorem dX3_reached_63 : decode cX3_reached 63 = .ok (.ifCond .eq 15, 3) := by decide +kernel
theorem dX3_reached_66 : decode cX3_reached 66 = .ok (.iload_n 3, 1) := by decide +kernel
theorem dX3_reached_67 : decode cX3_reached 67 = .ok (.iconst 1, 1) := by decide +kernel
theorem dX3_reached_68 : decode cX3_reached 68 = .ok (.aload_n 0, 1) := by decide +kernel
theorem dX3_reached_69 : decode cX3_reached 69 = .ok (.getfield 15, 3) := by decide +kernel
theorem dX3_reached_72 : decode cX3_reached 72 = .ok (.iload 5, 2) := by decide +kernel
theorem dX3_reached_74 : decode cX3_reached 74 = .ok (.iaload, 1) := by decide +kernel
theorem dX3_reached_75 : decode cX3_reached 75 = .ok (.ishl, 1) := by decide +kernel
theorem dX3_reached_76 : decode cX3_reached 76 = .ok (.ior, 1) := by decide +kernel
theorem dX3_reached_77 : decode cX3_reached 77 = .ok (.istore_n 3, 1) := by decide +kernel
theorem dX3_reached_78 : decode cX3_reached 78 = .ok (.iinc 5 1, 3) := by decide +kernel
theorem dX3_reached_81 : decode cX3_reached 81 = .ok (.goto (-66), 3) := by decide +kernel
theorem dX3_reached_84 : decode cX3_reached 84 = .ok (.iinc 4 1, 3) := by decide +kernel
theorem dX3_reached_87 : decode cX3_reached 87 = .ok (.goto (-82), 3) := by decide +kernel
theorem dX3_reached_90 : decode cX3_reached 90 = .ok (.iload_n 3, 1) := by decide +kernel
theorem dX3_reached_91 : decode cX3_reached 91 = .ok (.ireturn, 1) := by decide +kernel
theorem dX4_init_0 : decode cX4_init 0 = .ok (.aload_n 0, 1) := by decide +kernel
theorem dX4_init_1 : decode cX4_init 1 = .ok (.invokespecial 3, 3) := by decide +kernel
theorem dX4_init_4 : decode cX4_init 4 = .ok (.aload_n 0, 1) := by decide +kernel
theorem dX4_init_5 : decode cX4_init 5 = .ok (.bipush 8, 2) := by decide +kernel
theorem dX4_init_7 : decode cX4_init 7 = .ok (.newarray .int, 2) := by decide +kernel
theorem dX4_init_9 : decode cX4_init 9 = .ok (.putfield 9, 3) := by decide +kernel
theorem dX4_init_12 : decode cX4_init 12 = .ok (.aload_n 0, 1) := by decide +kernel
theorem dX4_init_13 : decode cX4_init 13 = .ok (.new 15, 3) := by decide +kernel
theorem dX4_init_16 : decode cX4_init 16 = .ok (.dup, 1) := by decide +kernel
theorem dX4_init_17 : decode cX4_init 17 = .ok (.invokespecial 17, 3) := by decide +kernel
theorem dX4_init_20 : decode cX4_init 20 = .ok (.putfield 18, 3) := by decide +kernel
theorem dX4_init_23 : decode cX4_init 23 = .ok (.aload_n 0, 1) := by decide +kernel
theorem dX4_init_24 : decode cX4_init 24 = .ok (.sipush 256, 3) := by decide +kernel
theorem dX4_init_27 : decode cX4_init 27 = .ok (.newarray .long, 2) := by decide +kernel
theorem dX4_init_29 : decode cX4_init 29 = .ok (.putfield 22, 3) := by decide +kernel
theorem dX4_init_32 : decode cX4_init 32 = .ok (.aload_n 0, 1) := by decide +kernel
theorem dX4_init_33 : decode cX4_init 33 = .ok (.sipush 256, 3) := by decide +kernel
theorem dX4_init_36 : decode cX4_init 36 = .ok (.newarray .long, 2) := by decide +kernel
theorem dX4_init_38 : decode cX4_init 38 = .ok (.putfield 26, 3) := by decide +kernel
theorem dX4_init_41 : decode cX4_init 41 = .ok (.aload_n 0, 1) := by decide +kernel
theorem dX4_init_42 : decode cX4_init 42 = .ok (.sipush 256, 3) := by decide +kernel
theorem dX4_init_45 : decode cX4_init 45 = .ok (.newarray .long, 2) := by decide +kernel
theorem dX4_init_47 : decode cX4_init 47 = .ok (.putfield 29, 3) := by decide +kernel
theorem dX4_init_50 : decode cX4_init 50 = .ok (.return_, 1) := by decide +kernel
theorem dX4_reckon_0 : decode cX4_reckon 0 = .ok (.aload_n 0, 1) := by decide +kernel
theorem dX4_reckon_1 : decode cX4_reckon 1 = .ok (.aload_n 0, 1) := by decide +kernel
theorem dX4_reckon_2 : decode cX4_reckon 2 = .ok (.getfield 18, 3) := by decide +kernel
theorem dX4_reckon_5 : decode cX4_reckon 5 = .ok (.invokevirtual 32, 3) := by decide +kernel
theorem dX4_reckon_8 : decode cX4_reckon 8 = .ok (.putfield 36, 3) := by decide +kernel
theorem dX4_reckon_11 : decode cX4_reckon 11 = .ok (.aload_n 0, 1) := by decide +kernel
theorem dX4_reckon_12 : decode cX4_reckon 12 = .ok (.getfield 22, 3) := by decide +kernel
theorem dX4_reckon_15 : decode cX4_reckon 15 = .ok (.iconst 0, 1) := by decide +kernel
theorem dX4_reckon_16 : decode cX4_reckon 16 = .ok (.lconst 0, 1) := by decide +kernel
theorem dX4_reckon_17 : decode cX4_reckon 17 = .ok (.lastore, 1) := by decide +kernel
theorem dX4_reckon_18 : decode cX4_reckon 18 = .ok (.iconst 1, 1) := by decide +kernel
theorem dX4_reckon_19 : decode cX4_reckon 19 = .ok (.istore_n 1, 1) := by decide +kernel
theorem dX4_reckon_20 : decode cX4_reckon 20 = .ok (.iload_n 1, 1) := by decide +kernel
theorem dX4_reckon_21 : decode cX4_reckon 21 = .ok (.aload_n 0, 1) := by decide +kernel
theorem dX4_reckon_22 : decode cX4_reckon 22 = .ok (.getfield 36, 3) := by decide +kernel
theorem dX4_reckon_25 : decode cX4_reckon 25 = .ok (.if_icmp .gt 18, 3) := by decide +kernel
theorem dX4_reckon_28 : decode cX4_reckon 28 = .ok (.aload_n 0, 1) := by decide +kernel
theorem dX4_reckon_29 : decode cX4_reckon 29 = .ok (.getfield 22, 3) := by decide +kernel
theorem dX4_reckon_32 : decode cX4_reckon 32 = .ok (.iload_n 1, 1) := by decide +kernel
theorem dX4_reckon_33 : decode cX4_reckon 33 = .ok (.ldc2_w 40, 3) := by decide +kernel
theorem dX4_reckon_36 : decode cX4_reckon 36 = .ok (.lastore, 1) := by decide +kernel
theorem dX4_reckon_37 : decode cX4_reckon 37 = .ok (.iinc 1 1, 3) := by decide +kernel
theorem dX4_reckon_40 : decode cX4_reckon 40 = .ok (.goto (-20), 3) := by decide +kernel
theorem dX4_reckon_43 : decode cX4_reckon 43 = .ok (.iconst 0, 1) := by decide +kernel
theorem dX4_reckon_44 : decode cX4_reckon 44 = .ok (.istore_n 1, 1) := by decide +kernel
theorem dX4_reckon_45 : decode cX4_reckon 45 = .ok (.iload_n 1, 1) := by decide +kernel
theorem dX4_reckon_46 : decode cX4_reckon 46 = .ok (.bipush 8, 2) := by decide +kernel
theorem dX4_reckon_48 : decode cX4_reckon 48 = .ok (.if_icmp .ge 19, 3) := by decide +kernel
theorem dX4_reckon_51 : decode cX4_reckon 51 = .ok (.aload_n 0, 1) := by decide +kernel
theorem dX4_reckon_52 : decode cX4_reckon 52 = .ok (.iload_n 1, 1) := by decide +kernel
theorem dX4_reckon_53 : decode cX4_reckon 53 = .ok (.invokevirtual 42, 3) := by decide +kernel
theorem dX4_reckon_56 : decode cX4_reckon 56 = .ok (.aload_n 0, 1) := by decide +kernel
theorem dX4_reckon_57 : decode cX4_reckon 57 = .ok (.iload_n 1, 1) := by decide +kernel
theorem dX4_reckon_58 : decode cX4_reckon 58 = .ok (.invokevirtual 46, 3) := by decide +kernel
theorem dX4_reckon_61 : decode cX4_reckon 61 = .ok (.iinc 1 1, 3) := by decide +kernel
theorem dX4_reckon_64 : decode cX4_reckon 64 = .ok (.goto (-19), 3) := by decide +kernel
theorem dX4_reckon_67 : decode cX4_reckon 67 = .ok (.aload_n 0, 1) := by decide +kernel
theorem dX4_reckon_68 : decode cX4_reckon 68 = .ok (.invokevirtual 49, 3) := by decide +kernel
theorem dX4_reckon_71 : decode cX4_reckon 71 = .ok (.return_, 1) := by decide +kernel
theorem dX4_joinHour_0 : decode cX4_joinHour 0 = .ok (.aload_n 0, 1) := by decide +kernel
theorem dX4_joinHour_1 : decode cX4_joinHour 1 = .ok (.getfield 22, 3) := by decide +kernel
theorem dX4_joinHour_4 : decode cX4_joinHour 4 = .ok (.iconst 0, 1) := by decide +kernel
theorem dX4_joinHour_5 : decode cX4_joinHour 5 = .ok (.aload_n 0, 1) := by decide +kernel
theorem dX4_joinHour_6 : decode cX4_joinHour 6 = .ok (.getfield 26, 3) := by decide +kernel
theorem dX4_joinHour_9 : decode cX4_joinHour 9 = .ok (.iconst 0, 1) := by decide +kernel
theorem dX4_joinHour_10 : decode cX4_joinHour 10 = .ok (.sipush 256, 3) := by decide +kernel
theorem dX4_joinHour_13 : decode cX4_joinHour 13 = .ok (.invokestatic 52, 3) := by decide +kernel
theorem dX4_joinHour_16 : decode cX4_joinHour 16 = .ok (.aload_n 0, 1) := by decide +kernel
theorem dX4_joinHour_17 : decode cX4_joinHour 17 = .ok (.iload_n 1, 1) := by decide +kernel
theorem dX4_joinHour_18 : decode cX4_joinHour 18 = .ok (.invokevirtual 58, 3) := by decide +kernel
theorem dX4_joinHour_21 : decode cX4_joinHour 21 = .ok (.istore_n 2, 1) := by decide +kernel
theorem dX4_joinHour_22 : decode cX4_joinHour 22 = .ok (.aload_n 0, 1) := by decide +kernel
theorem dX4_joinHour_23 : decode cX4_joinHour 23 = .ok (.getfield 18, 3) := by decide +kernel
theorem dX4_joinHour_26 : decode cX4_joinHour 26 = .ok (.getfield 62, 3) := by decide +kernel
theorem dX4_joinHour_29 : decode cX4_joinHour 29 = .ok (.getfield 66, 3) := by decide +kernel
theorem dX4_joinHour_32 : decode cX4_joinHour 32 = .ok (.iconst 0, 1) := by decide +kernel
theorem dX4_joinHour_33 : decode cX4_joinHour 33 = .ok (.iaload, 1) := by decide +kernel
theorem dX4_joinHour_34 : decode cX4_joinHour 34 = .ok (.i2l, 1) := by decide +kernel
theorem dX4_joinHour_35 : decode cX4_joinHour 35 = .ok (.ldc2_w 71, 3) := by decide +kernel
theorem dX4_joinHour_38 : decode cX4_joinHour 38 = .ok (.lmul, 1) := by decide +kernel
theorem dX4_joinHour_39 : decode cX4_joinHour 39 = .ok (.lstore_n 3, 1) := by decide +kernel
theorem dX4_joinHour_40 : decode cX4_joinHour 40 = .ok (.iconst 1, 1) := by decide +kernel
theorem dX4_joinHour_41 : decode cX4_joinHour 41 = .ok (.istore 5, 2) := by decide +kernel
theorem dX4_joinHour_43 : decode cX4_joinHour 43 = .ok (.iload 5, 2) := by decide +kernel
theorem dX4_joinHour_45 : decode cX4_joinHour 45 = .ok (.aload_n 0, 1) := by decide +kernel
theorem dX4_joinHour_46 : decode cX4_joinHour 46 = .ok (.getfield 36, 3) := by decide +kernel
theorem dX4_joinHour_49 : decode cX4_joinHour 49 = .ok (.if_icmp .gt 49, 3) := by decide +kernel
theorem dX4_joinHour_52 : decode cX4_joinHour 52 = .ok (.aload_n 0, 1) := by decide +kernel
theorem dX4_joinHour_53 : decode cX4_joinHour 53 = .ok (.getfield 29, 3) := by decide +kernel
theorem dX4_joinHour_56 : decode cX4_joinHour 56 = .ok (.iload 5, 2) := by decide +kernel
theorem dX4_joinHour_58 : decode cX4_joinHour 58 = .ok (.laload, 1) := by decide +kernel
theorem dX4_joinHour_59 : decode cX4_joinHour 59 = .ok (.ldc2_w 40, 3) := by decide +kernel
theorem dX4_joinHour_62 : decode cX4_joinHour 62 = .ok (.lcmp, 1) := by decide +kernel
theorem dX4_joinHour_63 : decode cX4_joinHour 63 = .ok (.ifCond .ge 29, 3) := by decide +kernel
theorem dX4_joinHour_66 : decode cX4_joinHour 66 = .ok (.aload_n 0, 1) := by decide +kernel
theorem dX4_joinHour_67 : decode cX4_joinHour 67 = .ok (.iload 5, 2) := by decide +kernel
theorem dX4_joinHour_69 : decode cX4_joinHour 69 = .ok (.aload_n 0, 1) := by decide +kernel
theorem dX4_joinHour_70 : decode cX4_joinHour 70 = .ok (.getfield 29, 3) := by decide +kernel
theorem dX4_joinHour_73 : decode cX4_joinHour 73 = .ok (.iload 5, 2) := by decide +kernel
theorem dX4_joinHour_75 : decode cX4_joinHour 75 = .ok (.laload, 1) := by decide +kernel
theorem dX4_joinHour_76 : decode cX4_joinHour 76 = .ok (.iload 5, 2) := by decide +kernel
theorem dX4_joinHour_78 : decode cX4_joinHour 78 = .ok (.iload_n 2, 1) := by decide +kernel
theorem dX4_joinHour_79 : decode cX4_joinHour 79 = .ok (.iand, 1) := by decide +kernel
theorem dX4_joinHour_80 : decode cX4_joinHour 80 = .ok (.ifCond .eq 7, 3) := by decide +kernel
theorem dX4_joinHour_83 : decode cX4_joinHour 83 = .ok (.lload_n 3, 1) := by decide +kernel
theorem dX4_joinHour_84 : decode cX4_joinHour 84 = .ok (.goto 4, 3) := by decide +kernel
theorem dX4_joinHour_87 : decode cX4_joinHour 87 = .ok (.lconst 0, 1) := by decide +kernel
theorem dX4_joinHour_88 : decode cX4_joinHour 88 = .ok (.ladd, 1) := by decide +kernel
theorem dX4_joinHour_89 : decode cX4_joinHour 89 = .ok (.invokevirtual 73, 3) := by decide +kernel
theorem dX4_joinHour_92 : decode cX4_joinHour 92 = .ok (.iinc 5 1, 3) := by decide +kernel
theorem dX4_joinHour_95 : decode cX4_joinHour 95 = .ok (.goto (-52), 3) := by decide +kernel
theorem dX4_joinHour_98 : decode cX4_joinHour 98 = .ok (.return_, 1) := by decide +kernel
theorem dX4_turnedBy_0 : decode cX4_turnedBy 0 = .ok (.iconst 0, 1) := by decide +kernel
theorem dX4_turnedBy_1 : decode cX4_turnedBy 1 = .ok (.istore_n 2, 1) := by decide +kernel
theorem dX4_turnedBy_2 : decode cX4_turnedBy 2 = .ok (.iconst 0, 1) := by decide +kernel
theorem dX4_turnedBy_3 : decode cX4_turnedBy 3 = .ok (.istore_n 3, 1) := by decide +kernel
theorem dX4_turnedBy_4 : decode cX4_turnedBy 4 = .ok (.iload_n 3, 1) := by decide +kernel
theorem dX4_turnedBy_5 : decode cX4_turnedBy 5 = .ok (.aload_n 0, 1) := by decide +kernel
theorem dX4_turnedBy_6 : decode cX4_turnedBy 6 = .ok (.getfield 18, 3) := by decide +kernel
theorem dX4_turnedBy_9 : decode cX4_turnedBy 9 = .ok (.getfield 77, 3) := by decide +kernel
theorem dX4_turnedBy_12 : decode cX4_turnedBy 12 = .ok (.getfield 81, 3) := by decide +kernel
theorem dX4_turnedBy_15 : decode cX4_turnedBy 15 = .ok (.if_icmp .ge 27, 3) := by decide +kernel
theorem dX4_turnedBy_18 : decode cX4_turnedBy 18 = .ok (.aload_n 0, 1) := by decide +kernel
theorem dX4_turnedBy_19 : decode cX4_turnedBy 19 = .ok (.getfield 18, 3) := by decide +kernel
theorem dX4_turnedBy_22 : decode cX4_turnedBy 22 = .ok (.iload_n 3, 1) := by decide +kernel
theorem dX4_turnedBy_23 : decode cX4_turnedBy 23 = .ok (.iload_n 1, 1) := by decide +kernel
theorem dX4_turnedBy_24 : decode cX4_turnedBy 24 = .ok (.invokevirtual 86, 3) := by decide +kernel
theorem dX4_turnedBy_27 : decode cX4_turnedBy 27 = .ok (.ifCond .eq 9, 3) := by decide +kernel
theorem dX4_turnedBy_30 : decode cX4_turnedBy 30 = .ok (.iload_n 2, 1) := by decide +kernel
theorem dX4_turnedBy_31 : decode cX4_turnedBy 31 = .ok (.iconst 1, 1) := by decide +kernel
theorem dX4_turnedBy_32 : decode cX4_turnedBy 32 = .ok (.iload_n 3, 1) := by decide +kernel
theorem dX4_turnedBy_33 : decode cX4_turnedBy 33 = .ok (.ishl, 1) := by decide +kernel
theorem dX4_turnedBy_34 : decode cX4_turnedBy 34 = .ok (.ior, 1) := by decide +kernel
theorem dX4_turnedBy_35 : decode cX4_turnedBy 35 = .ok (.istore_n 2, 1) := by decide +kernel
theorem dX4_turnedBy_36 : decode cX4_turnedBy 36 = .ok (.iinc 3 1, 3) := by decide +kernel
theorem dX4_turnedBy_39 : decode cX4_turnedBy 39 = .ok (.goto (-35), 3) := by decide +kernel
theorem dX4_turnedBy_42 : decode cX4_turnedBy 42 = .ok (.iload_n 2, 1) := by decide +kernel
theorem dX4_turnedBy_43 : decode cX4_turnedBy 43 = .ok (.ireturn, 1) := by decide +kernel
theorem dX4_reckonTogether_0 : decode cX4_reckonTogether 0 = .ok (.aload_n 0, 1) := by decide +kernel
theorem dX4_reckonTogether_1 : decode cX4_reckonTogether 1 = .ok (.getfield 29, 3) := by decide +kernel
theorem dX4_reckonTogether_4 : decode cX4_reckonTogether 4 = .ok (.iconst 0, 1) := by decide +kernel
theorem dX4_reckonTogether_5 : decode cX4_reckonTogether 5 = .ok (.lconst 0, 1) := by decide +kernel
theorem dX4_reckonTogether_6 : decode cX4_reckonTogether 6 = .ok (.lastore, 1) := by decide +kernel
theorem dX4_reckonTogether_7 : decode cX4_reckonTogether 7 = .ok (.iconst 0, 1) := by decide +kernel
theorem dX4_reckonTogether_8 : decode cX4_reckonTogether 8 = .ok (.istore_n 2, 1) := by decide +kernel
theorem dX4_reckonTogether_9 : decode cX4_reckonTogether 9 = .ok (.iload_n 2, 1) := by decide +kernel
theorem dX4_reckonTogether_10 : decode cX4_reckonTogether 10 = .ok (.aload_n 0, 1) := by decide +kernel
theorem dX4_reckonTogether_11 : decode cX4_reckonTogether 11 = .ok (.getfield 18, 3) := by decide +kernel
theorem dX4_reckonTogether_14 : decode cX4_reckonTogether 14 = .ok (.getfield 77, 3) := by decide +kernel
theorem dX4_reckonTogether_17 : decode cX4_reckonTogether 17 = .ok (.getfield 81, 3) := by decide +kernel
theorem dX4_reckonTogether_20 : decode cX4_reckonTogether 20 = .ok (.if_icmp .ge 147, 3) := by decide +kernel
theorem dX4_reckonTogether_23 : decode cX4_reckonTogether 23 = .ok (.aload_n 0, 1) := by decide +kernel
theorem dX4_reckonTogether_24 : decode cX4_reckonTogether 24 = .ok (.getfield 18, 3) := by decide +kernel
theorem dX4_reckonTogether_27 : decode cX4_reckonTogether 27 = .ok (.iload_n 2, 1) := by decide +kernel
theorem dX4_reckonTogether_28 : decode cX4_reckonTogether 28 = .ok (.iload_n 1, 1) := by decide +kernel
theorem dX4_reckonTogether_29 : decode cX4_reckonTogether 29 = .ok (.invokevirtual 90, 3) := by decide +kernel
theorem dX4_reckonTogether_32 : decode cX4_reckonTogether 32 = .ok (.istore_n 3, 1) := by decide +kernel
theorem dX4_reckonTogether_33 : decode cX4_reckonTogether 33 = .ok (.iload_n 3, 1) := by decide +kernel
theorem dX4_reckonTogether_34 : decode cX4_reckonTogether 34 = .ok (.ifCond .eq 12, 3) := by decide +kernel
theorem dX4_reckonTogether_37 : decode cX4_reckonTogether 37 = .ok (.aload_n 0, 1) := by decide +kernel
theorem dX4_reckonTogether_38 : decode cX4_reckonTogether 38 = .ok (.iload_n 2, 1) := by decide +kernel
theorem dX4_reckonTogether_39 : decode cX4_reckonTogether 39 = .ok (.iload_n 1, 1) := by decide +kernel
theorem dX4_reckonTogether_40 : decode cX4_reckonTogether 40 = .ok (.invokevirtual 93, 3) := by decide +kernel
theorem dX4_reckonTogether_43 : decode cX4_reckonTogether 43 = .ok (.goto 4, 3) := by decide +kernel
theorem dX4_reckonTogether_46 : decode cX4_reckonTogether 46 = .ok (.iconst 0, 1) := by decide +kernel
theorem dX4_reckonTogether_47 : decode cX4_reckonTogether 47 = .ok (.istore 4, 2) := by decide +kernel
theorem dX4_reckonTogether_49 : decode cX4_reckonTogether 49 = .ok (.aload_n 0, 1) := by decide +kernel
theorem dX4_reckonTogether_50 : decode cX4_reckonTogether 50 = .ok (.getfield 18, 3) := by decide +kernel
theorem dX4_reckonTogether_53 : decode cX4_reckonTogether 53 = .ok (.iload_n 2, 1) := by decide +kernel
theorem dX4_reckonTogether_54 : decode cX4_reckonTogether 54 = .ok (.iload_n 1, 1) := by decide +kernel
theorem dX4_reckonTogether_55 : decode cX4_reckonTogether 55 = .ok (.invokevirtual 97, 3) := by decide +kernel
theorem dX4_reckonTogether_58 : decode cX4_reckonTogether 58 = .ok (.i2l, 1) := by decide +kernel
theorem dX4_reckonTogether_59 : decode cX4_reckonTogether 59 = .ok (.ldc2_w 71, 3) := by decide +kernel
theorem dX4_reckonTogether_62 : decode cX4_reckonTogether 62 = .ok (.lmul, 1) := by decide +kernel
theorem dX4_reckonTogether_63 : decode cX4_reckonTogether 63 = .ok (.iload_n 1, 1) := by decide +kernel
theorem dX4_reckonTogether_64 : decode cX4_reckonTogether 64 = .ok (.iconst 1, 1) := by decide +kernel
theorem dX4_reckonTogether_65 : decode cX4_reckonTogether 65 = .ok (.iadd, 1) := by decide +kernel
theorem dX4_reckonTogether_66 : decode cX4_reckonTogether 66 = .ok (.i2l, 1) := by decide +kernel
theorem dX4_reckonTogether_67 : decode cX4_reckonTogether 67 = .ok (.getstatic 100, 3) := by decide +kernel
theorem dX4_reckonTogether_70 : decode cX4_reckonTogether 70 = .ok (.iload_n 2, 1) := by decide +kernel
theorem dX4_reckonTogether_71 : decode cX4_reckonTogether 71 = .ok (.laload, 1) := by decide +kernel
theorem dX4_reckonTogether_72 : decode cX4_reckonTogether 72 = .ok (.lmul, 1) := by decide +kernel
theorem dX4_reckonTogether_73 : decode cX4_reckonTogether 73 = .ok (.ladd, 1) := by decide +kernel
theorem dX4_reckonTogether_74 : decode cX4_reckonTogether 74 = .ok (.lstore 5, 2) := by decide +kernel
theorem dX4_reckonTogether_76 : decode cX4_reckonTogether 76 = .ok (.iconst 1, 1) := by decide +kernel
theorem dX4_reckonTogether_77 : decode cX4_reckonTogether 77 = .ok (.iload_n 2, 1) := by decide +kernel
theorem dX4_reckonTogether_78 : decode cX4_reckonTogether 78 = .ok (.ishl, 1) := by decide +kernel
theorem dX4_reckonTogether_79 : decode cX4_reckonTogether 79 = .ok (.istore 7, 2) := by decide +kernel
theorem dX4_reckonTogether_81 : decode cX4_reckonTogether 81 = .ok (.iconst 0, 1) := by decide +kernel
theorem dX4_reckonTogether_82 : decode cX4_reckonTogether 82 = .ok (.istore 8, 2) := by decide +kernel
theorem dX4_reckonTogether_84 : decode cX4_reckonTogether 84 = .ok (.iload 8, 2) := by decide +kernel
theorem dX4_reckonTogether_86 : decode cX4_reckonTogether 86 = .ok (.iload 7, 2) := by decide +kernel
theorem dX4_reckonTogether_88 : decode cX4_reckonTogether 88 = .ok (.if_icmp .ge 73, 3) := by decide +kernel
theorem dX4_reckonTogether_91 : decode cX4_reckonTogether 91 = .ok (.iload_n 3, 1) := by decide +kernel
theorem dX4_reckonTogether_92 : decode cX4_reckonTogether 92 = .ok (.ifCond .eq 29, 3) := by decide +kernel
theorem dX4_reckonTogether_95 : decode cX4_reckonTogether 95 = .ok (.iload 8, 2) := by decide +kernel
theorem dX4_reckonTogether_97 : decode cX4_reckonTogether 97 = .ok (.iload 4, 2) := by decide +kernel
theorem dX4_reckonTogether_99 : decode cX4_reckonTogether 99 = .ok (.iand, 1) := by decide +kernel
theorem dX4_reckonTogether_100 : decode cX4_reckonTogether 100 = .ok (.ifCond .ne 21, 3) := by decide +kernel
theorem dX4_reckonTogether_103 : decode cX4_reckonTogether 103 = .ok (.aload_n 0, 1) := by decide +kernel
theorem dX4_reckonTogether_104 : decode cX4_reckonTogether 104 = .ok (.getfield 29, 3) := by decide +kernel
theorem dX4_reckonTogether_107 : decode cX4_reckonTogether 107 = .ok (.iload 8, 2) := by decide +kernel
theorem dX4_reckonTogether_109 : decode cX4_reckonTogether 109 = .ok (.laload, 1) := by decide +kernel
theorem dX4_reckonTogether_110 : decode cX4_reckonTogether 110 = .ok (.ldc2_w 40, 3) := by decide +kernel
theorem dX4_reckonTogether_113 : decode cX4_reckonTogether 113 = .ok (.lcmp, 1) := by decide +kernel
theorem dX4_reckonTogether_114 : decode cX4_reckonTogether 114 = .ok (.ifCond .ge 7, 3) := by decide +kernel
theorem dX4_reckonTogether_117 : decode cX4_reckonTogether 117 = .ok (.iconst 1, 1) := by decide +kernel
theorem dX4_reckonTogether_118 : decode cX4_reckonTogether 118 = .ok (.goto 4, 3) := by decide +kernel
theorem dX4_reckonTogether_121 : decode cX4_reckonTogether 121 = .ok (.iconst 0, 1) := by decide +kernel
theorem dX4_reckonTogether_122 : decode cX4_reckonTogether 122 = .ok (.istore 9, 2) := by decide +kernel
theorem dX4_reckonTogether_124 : decode cX4_reckonTogether 124 = .ok (.aload_n 0, 1) := by decide +kernel
theorem dX4_reckonTogether_125 : decode cX4_reckonTogether 125 = .ok (.getfield 29, 3) := by decide +kernel
theorem dX4_reckonTogether_128 : decode cX4_reckonTogether 128 = .ok (.iload 7, 2) := by decide +kernel
theorem dX4_reckonTogether_130 : decode cX4_reckonTogether 130 = .ok (.iload 8, 2) := by decide +kernel
theorem dX4_reckonTogether_132 : decode cX4_reckonTogether 132 = .ok (.iadd, 1) := by decide +kernel
theorem dX4_reckonTogether_133 : decode cX4_reckonTogether 133 = .ok (.iload 9, 2) := by decide +kernel
theorem dX4_reckonTogether_135 : decode cX4_reckonTogether 135 = .ok (.ifCond .eq 16, 3) := by decide +kernel
theorem dX4_reckonTogether_138 : decode cX4_reckonTogether 138 = .ok (.aload_n 0, 1) := by decide +kernel
theorem dX4_reckonTogether_139 : decode cX4_reckonTogether 139 = .ok (.getfield 29, 3) := by decide +kernel
theorem dX4_reckonTogether_142 : decode cX4_reckonTogether 142 = .ok (.iload 8, 2) := by decide +kernel
theorem dX4_reckonTogether_144 : decode cX4_reckonTogether 144 = .ok (.laload, 1) := by decide +kernel
theorem dX4_reckonTogether_145 : decode cX4_reckonTogether 145 = .ok (.lload 5, 2) := by decide +kernel
theorem dX4_reckonTogether_147 : decode cX4_reckonTogether 147 = .ok (.ladd, 1) := by decide +kernel
theorem dX4_reckonTogether_148 : decode cX4_reckonTogether 148 = .ok (.goto 6, 3) := by decide +kernel
theorem dX4_reckonTogether_151 : decode cX4_reckonTogether 151 = .ok (.ldc2_w 40, 3) := by decide +kernel
theorem dX4_reckonTogether_154 : decode cX4_reckonTogether 154 = .ok (.lastore, 1) := by decide +kernel
theorem dX4_reckonTogether_155 : decode cX4_reckonTogether 155 = .ok (.iinc 8 1, 3) := by decide +kernel
theorem dX4_reckonTogether_158 : decode cX4_reckonTogether 158 = .ok (.goto (-74), 3) := by decide +kernel
theorem dX4_reckonTogether_161 : decode cX4_reckonTogether 161 = .ok (.iinc 2 1, 3) := by decide +kernel
theorem dX4_reckonTogether_164 : decode cX4_reckonTogether 164 = .ok (.goto (-155), 3) := by decide +kernel
theorem dX4_reckonTogether_167 : decode cX4_reckonTogether 167 = .ok (.return_, 1) := by decide +kernel
theorem dX4_apartFrom_0 : decode cX4_apartFrom 0 = .ok (.iconst 0, 1) := by decide +kernel
theorem dX4_apartFrom_1 : decode cX4_apartFrom 1 = .ok (.istore_n 3, 1) := by decide +kernel
theorem dX4_apartFrom_2 : decode cX4_apartFrom 2 = .ok (.iconst 0, 1) := by decide +kernel
theorem dX4_apartFrom_3 : decode cX4_apartFrom 3 = .ok (.istore 4, 2) := by decide +kernel
theorem dX4_apartFrom_5 : decode cX4_apartFrom 5 = .ok (.iload 4, 2) := by decide +kernel
theorem dX4_apartFrom_7 : decode cX4_apartFrom 7 = .ok (.iload_n 1, 1) := by decide +kernel
theorem dX4_apartFrom_8 : decode cX4_apartFrom 8 = .ok (.if_icmp .ge 43, 3) := by decide +kernel
theorem dX4_apartFrom_11 : decode cX4_apartFrom 11 = .ok (.aload_n 0, 1) := by decide +kernel
theorem dX4_apartFrom_12 : decode cX4_apartFrom 12 = .ok (.getfield 18, 3) := by decide +kernel
theorem dX4_apartFrom_15 : decode cX4_apartFrom 15 = .ok (.iload 4, 2) := by decide +kernel
theorem dX4_apartFrom_17 : decode cX4_apartFrom 17 = .ok (.iload_n 2, 1) := by decide +kernel
theorem dX4_apartFrom_18 : decode cX4_apartFrom 18 = .ok (.invokevirtual 90, 3) := by decide +kernel
theorem dX4_apartFrom_21 : decode cX4_apartFrom 21 = .ok (.ifCond .eq 24, 3) := by decide +kernel
theorem dX4_apartFrom_24 : decode cX4_apartFrom 24 = .ok (.aload_n 0, 1) := by decide +kernel
theorem dX4_apartFrom_25 : decode cX4_apartFrom 25 = .ok (.getfield 18, 3) := by decide +kernel
theorem dX4_apartFrom_28 : decode cX4_apartFrom 28 = .ok (.iload_n 1, 1) := by decide +kernel
theorem dX4_apartFrom_29 : decode cX4_apartFrom 29 = .ok (.iload 4, 2) := by decide +kernel
theorem dX4_apartFrom_31 : decode cX4_apartFrom 31 = .ok (.iload_n 2, 1) := by decide +kernel
theorem dX4_apartFrom_32 : decode cX4_apartFrom 32 = .ok (.invokevirtual 103, 3) := by decide +kernel
theorem dX4_apartFrom_35 : decode cX4_apartFrom 35 = .ok (.ifCond .eq 10, 3) := by decide +kernel
theorem dX4_apartFrom_38 : decode cX4_apartFrom 38 = .ok (.iload_n 3, 1) := by decide +kernel
theorem dX4_apartFrom_39 : decode cX4_apartFrom 39 = .ok (.iconst 1, 1) := by decide +kernel
theorem dX4_apartFrom_40 : decode cX4_apartFrom 40 = .ok (.iload 4, 2) := by decide +kernel
theorem dX4_apartFrom_42 : decode cX4_apartFrom 42 = .ok (.ishl, 1) := by decide +kernel
theorem dX4_apartFrom_43 : decode cX4_apartFrom 43 = .ok (.ior, 1) := by decide +kernel
theorem dX4_apartFrom_44 : decode cX4_apartFrom 44 = .ok (.istore_n 3, 1) := by decide +kernel
theorem dX4_apartFrom_45 : decode cX4_apartFrom 45 = .ok (.iinc 4 1, 3) := by decide +kernel
theorem dX4_apartFrom_48 : decode cX4_apartFrom 48 = .ok (.goto (-43), 3) := by decide +kernel
theorem dX4_apartFrom_51 : decode cX4_apartFrom 51 = .ok (.iload_n 3, 1) := by decide +kernel
theorem dX4_apartFrom_52 : decode cX4_apartFrom 52 = .ok (.ireturn, 1) := by decide +kernel
theorem dX4_joinWithRest_0 : decode cX4_joinWithRest 0 = .ok (.aload_n 0, 1) := by decide +kernel
theorem dX4_joinWithRest_1 : decode cX4_joinWithRest 1 = .ok (.getfield 36, 3) := by decide +kernel
theorem dX4_joinWithRest_4 : decode cX4_joinWithRest 4 = .ok (.iload_n 1, 1) := by decide +kernel
theorem dX4_joinWithRest_5 : decode cX4_joinWithRest 5 = .ok (.iconst (-1), 1) := by decide +kernel
theorem dX4_joinWithRest_6 : decode cX4_joinWithRest 6 = .ok (.ixor, 1) := by decide +kernel
theorem dX4_joinWithRest_7 : decode cX4_joinWithRest 7 = .ok (.iand, 1) := by decide +kernel
theorem dX4_joinWithRest_8 : decode cX4_joinWithRest 8 = .ok (.istore 4, 2) := by decide +kernel
theorem dX4_joinWithRest_10 : decode cX4_joinWithRest 10 = .ok (.iload 4, 2) := by decide +kernel
theorem dX4_joinWithRest_12 : decode cX4_joinWithRest 12 = .ok (.istore 5, 2) := by decide +kernel
theorem dX4_joinWithRest_14 : decode cX4_joinWithRest 14 = .ok (.sipush 256, 3) := by decide +kernel
theorem dX4_joinWithRest_17 : decode cX4_joinWithRest 17 = .ok (.istore 6, 2) := by decide +kernel
theorem dX4_joinWithRest_19 : decode cX4_joinWithRest 19 = .ok (.iload 6, 2) := by decide +kernel
theorem dX4_joinWithRest_21 : decode cX4_joinWithRest 21 = .ok (.ifCond .le 78, 3) := by decide +kernel
theorem dX4_joinWithRest_24 : decode cX4_joinWithRest 24 = .ok (.aload_n 0, 1) := by decide +kernel
theorem dX4_joinWithRest_25 : decode cX4_joinWithRest 25 = .ok (.getfield 26, 3) := by decide +kernel
theorem dX4_joinWithRest_28 : decode cX4_joinWithRest 28 = .ok (.iload 5, 2) := by decide +kernel
theorem dX4_joinWithRest_30 : decode cX4_joinWithRest 30 = .ok (.laload, 1) := by decide +kernel
theorem dX4_joinWithRest_31 : decode cX4_joinWithRest 31 = .ok (.ldc2_w 40, 3) := by decide +kernel
theorem dX4_joinWithRest_34 : decode cX4_joinWithRest 34 = .ok (.lcmp, 1) := by decide +kernel
theorem dX4_joinWithRest_35 : decode cX4_joinWithRest 35 = .ok (.ifCond .ge 43, 3) := by decide +kernel
theorem dX4_joinWithRest_38 : decode cX4_joinWithRest 38 = .ok (.lload_n 2, 1) := by decide +kernel
theorem dX4_joinWithRest_39 : decode cX4_joinWithRest 39 = .ok (.aload_n 0, 1) := by decide +kernel
theorem dX4_joinWithRest_40 : decode cX4_joinWithRest 40 = .ok (.getfield 26, 3) := by decide +kernel
theorem dX4_joinWithRest_43 : decode cX4_joinWithRest 43 = .ok (.iload 5, 2) := by decide +kernel
theorem dX4_joinWithRest_45 : decode cX4_joinWithRest 45 = .ok (.laload, 1) := by decide +kernel
theorem dX4_joinWithRest_46 : decode cX4_joinWithRest 46 = .ok (.ladd, 1) := by decide +kernel
theorem dX4_joinWithRest_47 : decode cX4_joinWithRest 47 = .ok (.aload_n 0, 1) := by decide +kernel
theorem dX4_joinWithRest_48 : decode cX4_joinWithRest 48 = .ok (.getfield 22, 3) := by decide +kernel
theorem dX4_joinWithRest_51 : decode cX4_joinWithRest 51 = .ok (.iload_n 1, 1) := by decide +kernel
theorem dX4_joinWithRest_52 : decode cX4_joinWithRest 52 = .ok (.iload 5, 2) := by decide +kernel
theorem dX4_joinWithRest_54 : decode cX4_joinWithRest 54 = .ok (.ior, 1) := by decide +kernel
theorem dX4_joinWithRest_55 : decode cX4_joinWithRest 55 = .ok (.laload, 1) := by decide +kernel
theorem dX4_joinWithRest_56 : decode cX4_joinWithRest 56 = .ok (.lcmp, 1) := by decide +kernel
theorem dX4_joinWithRest_57 : decode cX4_joinWithRest 57 = .ok (.ifCond .ge 21, 3) := by decide +kernel
theorem dX4_joinWithRest_60 : decode cX4_joinWithRest 60 = .ok (.aload_n 0, 1) := by decide +kernel
theorem dX4_joinWithRest_61 : decode cX4_joinWithRest 61 = .ok (.getfield 22, 3) := by decide +kernel
theorem dX4_joinWithRest_64 : decode cX4_joinWithRest 64 = .ok (.iload_n 1, 1) := by decide +kernel
theorem dX4_joinWithRest_65 : decode cX4_joinWithRest 65 = .ok (.iload 5, 2) := by decide +kernel
theorem dX4_joinWithRest_67 : decode cX4_joinWithRest 67 = .ok (.ior, 1) := by decide +kernel
theorem dX4_joinWithRest_68 : decode cX4_joinWithRest 68 = .ok (.lload_n 2, 1) := by decide +kernel
theorem dX4_joinWithRest_69 : decode cX4_joinWithRest 69 = .ok (.aload_n 0, 1) := by decide +kernel
theorem dX4_joinWithRest_70 : decode cX4_joinWithRest 70 = .ok (.getfield 26, 3) := by decide +kernel
theorem dX4_joinWithRest_73 : decode cX4_joinWithRest 73 = .ok (.iload 5, 2) := by decide +kernel
theorem dX4_joinWithRest_75 : decode cX4_joinWithRest 75 = .ok (.laload, 1) := by decide +kernel
theorem dX4_joinWithRest_76 : decode cX4_joinWithRest 76 = .ok (.ladd, 1) := by decide +kernel
theorem dX4_joinWithRest_77 : decode cX4_joinWithRest 77 = .ok (.lastore, 1) := by decide +kernel
theorem dX4_joinWithRest_78 : decode cX4_joinWithRest 78 = .ok (.iload 5, 2) := by decide +kernel
theorem dX4_joinWithRest_80 : decode cX4_joinWithRest 80 = .ok (.ifCond .ne 4, 3) := by decide +kernel
theorem dX4_joinWithRest_83 : decode cX4_joinWithRest 83 = .ok (.return_, 1) := by decide +kernel
theorem dX4_joinWithRest_84 : decode cX4_joinWithRest 84 = .ok (.iload 5, 2) := by decide +kernel
theorem dX4_joinWithRest_86 : decode cX4_joinWithRest 86 = .ok (.iconst 1, 1) := by decide +kernel
theorem dX4_joinWithRest_87 : decode cX4_joinWithRest 87 = .ok (.isub, 1) := by decide +kernel
theorem dX4_joinWithRest_88 : decode cX4_joinWithRest 88 = .ok (.iload 4, 2) := by decide +kernel
theorem dX4_joinWithRest_90 : decode cX4_joinWithRest 90 = .ok (.iand, 1) := by decide +kernel
theorem dX4_joinWithRest_91 : decode cX4_joinWithRest 91 = .ok (.istore 5, 2) := by decide +kernel
theorem dX4_joinWithRest_93 : decode cX4_joinWithRest 93 = .ok (.iinc 6 (-1), 3) := by decide +kernel
theorem dX4_joinWithRest_96 : decode cX4_joinWithRest 96 = .ok (.goto (-77), 3) := by decide +kernel
theorem dX4_joinWithRest_99 : decode cX4_joinWithRest 99 = .ok (.return_, 1) := by decide +kernel
theorem dX4_choose_0 : decode cX4_choose 0 = .ok (.aload_n 0, 1) := by decide +kernel
theorem dX4_choose_1 : decode cX4_choose 1 = .ok (.getfield 18, 3) := by decide +kernel
theorem dX4_choose_4 : decode cX4_choose 4 = .ok (.getfield 62, 3) := by decide +kernel
theorem dX4_choose_7 : decode cX4_choose 7 = .ok (.getfield 66, 3) := by decide +kernel
theorem dX4_choose_10 : decode cX4_choose 10 = .ok (.iconst 2, 1) := by decide +kernel
theorem dX4_choose_11 : decode cX4_choose 11 = .ok (.iaload, 1) := by decide +kernel
theorem dX4_choose_12 : decode cX4_choose 12 = .ok (.iconst 1, 1) := by decide +kernel
theorem dX4_choose_13 : decode cX4_choose 13 = .ok (.iadd, 1) := by decide +kernel
theorem dX4_choose_14 : decode cX4_choose 14 = .ok (.i2l, 1) := by decide +kernel
theorem dX4_choose_15 : decode cX4_choose 15 = .ok (.ldc2_w 71, 3) := by decide +kernel
theorem dX4_choose_18 : decode cX4_choose 18 = .ok (.lmul, 1) := by decide +kernel
theorem dX4_choose_19 : decode cX4_choose 19 = .ok (.lstore_n 1, 1) := by decide +kernel
theorem dX4_choose_20 : decode cX4_choose 20 = .ok (.iconst 0, 1) := by decide +kernel
theorem dX4_choose_21 : decode cX4_choose 21 = .ok (.istore_n 3, 1) := by decide +kernel
theorem dX4_choose_22 : decode cX4_choose 22 = .ok (.aload_n 0, 1) := by decide +kernel
theorem dX4_choose_23 : decode cX4_choose 23 = .ok (.iconst 0, 1) := by decide +kernel
theorem dX4_choose_24 : decode cX4_choose 24 = .ok (.putfield 107, 3) := by decide +kernel
theorem dX4_choose_27 : decode cX4_choose 27 = .ok (.iconst 1, 1) := by decide +kernel
theorem dX4_choose_28 : decode cX4_choose 28 = .ok (.istore 4, 2) := by decide +kernel
theorem dX4_choose_30 : decode cX4_choose 30 = .ok (.iload 4, 2) := by decide +kernel
theorem dX4_choose_32 : decode cX4_choose 32 = .ok (.aload_n 0, 1) := by decide +kernel
theorem dX4_choose_33 : decode cX4_choose 33 = .ok (.getfield 36, 3) := by decide +kernel
theorem dX4_choose_36 : decode cX4_choose 36 = .ok (.if_icmp .gt 91, 3) := by decide +kernel
theorem dX4_choose_39 : decode cX4_choose 39 = .ok (.aload_n 0, 1) := by decide +kernel
theorem dX4_choose_40 : decode cX4_choose 40 = .ok (.getfield 18, 3) := by decide +kernel
theorem dX4_choose_43 : decode cX4_choose 43 = .ok (.getfield 77, 3) := by decide +kernel
theorem dX4_choose_46 : decode cX4_choose 46 = .ok (.iload 4, 2) := by decide +kernel
theorem dX4_choose_48 : decode cX4_choose 48 = .ok (.invokevirtual 110, 3) := by decide +kernel
theorem dX4_choose_51 : decode cX4_choose 51 = .ok (.istore 5, 2) := by decide +kernel
theorem dX4_choose_53 : decode cX4_choose 53 = .ok (.iload 5, 2) := by decide +kernel
theorem dX4_choose_55 : decode cX4_choose 55 = .ok (.aload_n 0, 1) := by decide +kernel
theorem dX4_choose_56 : decode cX4_choose 56 = .ok (.getfield 107, 3) := by decide +kernel
theorem dX4_choose_59 : decode cX4_choose 59 = .ok (.if_icmp .gt 29, 3) := by decide +kernel
theorem dX4_choose_62 : decode cX4_choose 62 = .ok (.iload 5, 2) := by decide +kernel
theorem dX4_choose_64 : decode cX4_choose 64 = .ok (.aload_n 0, 1) := by decide +kernel
theorem dX4_choose_65 : decode cX4_choose 65 = .ok (.getfield 107, 3) := by decide +kernel
theorem dX4_choose_68 : decode cX4_choose 68 = .ok (.if_icmp .ne 24, 3) := by decide +kernel
theorem dX4_choose_71 : decode cX4_choose 71 = .ok (.aload_n 0, 1) := by decide +kernel
theorem dX4_choose_72 : decode cX4_choose 72 = .ok (.getfield 22, 3) := by decide +kernel
theorem dX4_choose_75 : decode cX4_choose 75 = .ok (.iload 4, 2) := by decide +kernel
theorem dX4_choose_77 : decode cX4_choose 77 = .ok (.laload, 1) := by decide +kernel
theorem dX4_choose_78 : decode cX4_choose 78 = .ok (.aload_n 0, 1) := by decide +kernel
theorem dX4_choose_79 : decode cX4_choose 79 = .ok (.getfield 22, 3) := by decide +kernel
theorem dX4_choose_82 : decode cX4_choose 82 = .ok (.iload_n 3, 1) := by decide +kernel
theorem dX4_choose_83 : decode cX4_choose 83 = .ok (.laload, 1) := by decide +kernel
theorem dX4_choose_84 : decode cX4_choose 84 = .ok (.lcmp, 1) := by decide +kernel
theorem dX4_choose_85 : decode cX4_choose 85 = .ok (.ifCond .ge 7, 3) := by decide +kernel
theorem dX4_choose_88 : decode cX4_choose 88 = .ok (.iconst 1, 1) := by decide +kernel
theorem dX4_choose_89 : decode cX4_choose 89 = .ok (.goto 4, 3) := by decide +kernel
theorem dX4_choose_92 : decode cX4_choose 92 = .ok (.iconst 0, 1) := by decide +kernel
theorem dX4_choose_93 : decode cX4_choose 93 = .ok (.istore 6, 2) := by decide +kernel
theorem dX4_choose_95 : decode cX4_choose 95 = .ok (.aload_n 0, 1) := by decide +kernel
theorem dX4_choose_96 : decode cX4_choose 96 = .ok (.getfield 22, 3) := by decide +kernel
theorem dX4_choose_99 : decode cX4_choose 99 = .ok (.iload 4, 2) := by decide +kernel
theorem dX4_choose_101 : decode cX4_choose 101 = .ok (.laload, 1) := by decide +kernel
theorem dX4_choose_102 : decode cX4_choose 102 = .ok (.lload_n 1, 1) := by decide +kernel
theorem dX4_choose_103 : decode cX4_choose 103 = .ok (.lcmp, 1) := by decide +kernel
theorem dX4_choose_104 : decode cX4_choose 104 = .ok (.ifCond .ge 17, 3) := by decide +kernel
theorem dX4_choose_107 : decode cX4_choose 107 = .ok (.iload 6, 2) := by decide +kernel
theorem dX4_choose_109 : decode cX4_choose 109 = .ok (.ifCond .eq 12, 3) := by decide +kernel
theorem dX4_choose_112 : decode cX4_choose 112 = .ok (.iload 4, 2) := by decide +kernel
theorem dX4_choose_114 : decode cX4_choose 114 = .ok (.istore_n 3, 1) := by decide +kernel
theorem dX4_choose_115 : decode cX4_choose 115 = .ok (.aload_n 0, 1) := by decide +kernel
theorem dX4_choose_116 : decode cX4_choose 116 = .ok (.iload 5, 2) := by decide +kernel
theorem dX4_choose_118 : decode cX4_choose 118 = .ok (.putfield 107, 3) := by decide +kernel
theorem dX4_choose_121 : decode cX4_choose 121 = .ok (.iinc 4 1, 3) := by decide +kernel
theorem dX4_choose_124 : decode cX4_choose 124 = .ok (.goto (-94), 3) := by decide +kernel
theorem dX4_choose_127 : decode cX4_choose 127 = .ok (.aload_n 0, 1) := by decide +kernel
theorem dX4_choose_128 : decode cX4_choose 128 = .ok (.aload_n 0, 1) := by decide +kernel
theorem dX4_choose_129 : decode cX4_choose 129 = .ok (.getfield 22, 3) := by decide +kernel
theorem dX4_choose_132 : decode cX4_choose 132 = .ok (.iload_n 3, 1) := by decide +kernel
theorem dX4_choose_133 : decode cX4_choose 133 = .ok (.laload, 1) := by decide +kernel
theorem dX4_choose_134 : decode cX4_choose 134 = .ok (.ldc2_w 71, 3) := by decide +kernel
theorem dX4_choose_137 : decode cX4_choose 137 = .ok (.ldiv, 1) := by decide +kernel
theorem dX4_choose_138 : decode cX4_choose 138 = .ok (.l2i, 1) := by decide +kernel
theorem dX4_choose_139 : decode cX4_choose 139 = .ok (.putfield 113, 3) := by decide +kernel
theorem dX4_choose_142 : decode cX4_choose 142 = .ok (.iconst 0, 1) := by decide +kernel
theorem dX4_choose_143 : decode cX4_choose 143 = .ok (.istore 4, 2) := by decide +kernel
theorem dX4_choose_145 : decode cX4_choose 145 = .ok (.iload 4, 2) := by decide +kernel
theorem dX4_choose_147 : decode cX4_choose 147 = .ok (.bipush 8, 2) := by decide +kernel
theorem dX4_choose_149 : decode cX4_choose 149 = .ok (.if_icmp .ge 36, 3) := by decide +kernel
theorem dX4_choose_152 : decode cX4_choose 152 = .ok (.aload_n 0, 1) := by decide +kernel
theorem dX4_choose_153 : decode cX4_choose 153 = .ok (.getfield 9, 3) := by decide +kernel
theorem dX4_choose_156 : decode cX4_choose 156 = .ok (.iload 4, 2) := by decide +kernel
theorem dX4_choose_158 : decode cX4_choose 158 = .ok (.aload_n 0, 1) := by decide +kernel
theorem dX4_choose_159 : decode cX4_choose 159 = .ok (.getfield 22, 3) := by decide +kernel
theorem dX4_choose_162 : decode cX4_choose 162 = .ok (.iload_n 3, 1) := by decide +kernel
theorem dX4_choose_163 : decode cX4_choose 163 = .ok (.laload, 1) := by decide +kernel
theorem dX4_choose_164 : decode cX4_choose 164 = .ok (.getstatic 100, 3) := by decide +kernel
theorem dX4_choose_167 : decode cX4_choose 167 = .ok (.iload 4, 2) := by decide +kernel
theorem dX4_choose_169 : decode cX4_choose 169 = .ok (.laload, 1) := by decide +kernel
theorem dX4_choose_170 : decode cX4_choose 170 = .ok (.ldiv, 1) := by decide +kernel
theorem dX4_choose_171 : decode cX4_choose 171 = .ok (.ldc2_w 116, 3) := by decide +kernel
theorem dX4_choose_174 : decode cX4_choose 174 = .ok (.lrem, 1) := by decide +kernel
theorem dX4_choose_175 : decode cX4_choose 175 = .ok (.l2i, 1) := by decide +kernel
theorem dX4_choose_176 : decode cX4_choose 176 = .ok (.iconst 1, 1) := by decide +kernel
theorem dX4_choose_177 : decode cX4_choose 177 = .ok (.isub, 1) := by decide +kernel
theorem dX4_choose_178 : decode cX4_choose 178 = .ok (.iastore, 1) := by decide +kernel
theorem dX4_choose_179 : decode cX4_choose 179 = .ok (.iinc 4 1, 3) := by decide +kernel
theorem dX4_choose_182 : decode cX4_choose 182 = .ok (.goto (-37), 3) := by decide +kernel
theorem dX4_choose_185 : decode cX4_choose 185 = .ok (.return_, 1) := by decide +kernel
theorem dX5_init_0 : decode cX5_init 0 = .ok (.aload_n 0, 1) := by decide +kernel
theorem dX5_init_1 : decode cX5_init 1 = .ok (.invokespecial 3, 3) := by decide +kernel
theorem dX5_init_4 : decode cX5_init 4 = .ok (.aload_n 0, 1) := by decide +kernel
theorem dX5_init_5 : decode cX5_init 5 = .ok (.iconst (-1), 1) := by decide +kernel
theorem dX5_init_6 : decode cX5_init 6 = .ok (.putfield 9, 3) := by decide +kernel
theorem dX5_init_9 : decode cX5_init 9 = .ok (.aload_n 0, 1) := by decide +kernel
theorem dX5_init_10 : decode cX5_init 10 = .ok (.iconst 4, 1) := by decide +kernel
theorem dX5_init_11 : decode cX5_init 11 = .ok (.newarray .int, 2) := by decide +kernel
theorem dX5_init_13 : decode cX5_init 13 = .ok (.putfield 15, 3) := by decide +kernel
theorem dX5_init_16 : decode cX5_init 16 = .ok (.aload_n 0, 1) := by decide +kernel
theorem dX5_init_17 : decode cX5_init 17 = .ok (.iconst 4, 1) := by decide +kernel
theorem dX5_init_18 : decode cX5_init 18 = .ok (.newarray .boolean, 2) := by decide +kernel
theorem dX5_init_20 : decode cX5_init 20 = .ok (.putfield 19, 3) := by decide +kernel
theorem dX5_init_23 : decode cX5_init 23 = .ok (.aload_n 0, 1) := by decide +kernel
theorem dX5_init_24 : decode cX5_init 24 = .ok (.iconst 4, 1) := by decide +kernel
theorem dX5_init_25 : decode cX5_init 25 = .ok (.newarray .boolean, 2) := by decide +kernel
theorem dX5_init_27 : decode cX5_init 27 = .ok (.putfield 23, 3) := by decide +kernel
theorem dX5_init_30 : decode cX5_init 30 = .ok (.aload_n 0, 1) := by decide +kernel
theorem dX5_init_31 : decode cX5_init 31 = .ok (.iconst (-1), 1) := by decide +kernel
theorem dX5_init_32 : decode cX5_init 32 = .ok (.putfield 26, 3) := by decide +kernel
theorem dX5_init_35 : decode cX5_init 35 = .ok (.return_, 1) := by decide +kernel
theorem dX5_take_0 : decode cX5_take 0 = .ok (.aload_n 0, 1) := by decide +kernel
theorem dX5_take_1 : decode cX5_take 1 = .ok (.getfield 26, 3) := by decide +kernel
theorem dX5_take_4 : decode cX5_take 4 = .ok (.iconst (-1), 1) := by decide +kernel
theorem dX5_take_5 : decode cX5_take 5 = .ok (.if_icmp .ne 19, 3) := by decide +kernel
theorem dX5_take_8 : decode cX5_take 8 = .ok (.aload_n 0, 1) := by decide +kernel
theorem dX5_take_9 : decode cX5_take 9 = .ok (.iload_n 1, 1) := by decide +kernel
theorem dX5_take_10 : decode cX5_take 10 = .ok (.invokevirtual 29, 3) := by decide +kernel
theorem dX5_take_13 : decode cX5_take 13 = .ok (.ifCond .ne 11, 3) := by decide +kernel
theorem dX5_take_16 : decode cX5_take 16 = .ok (.aload_n 0, 1) := by decide +kernel
theorem dX5_take_17 : decode cX5_take 17 = .ok (.aload_n 0, 1) := by decide +kernel
theorem dX5_take_18 : decode cX5_take 18 = .ok (.getfield 33, 3) := by decide +kernel
theorem dX5_take_21 : decode cX5_take 21 = .ok (.putfield 26, 3) := by decide +kernel
theorem dX5_take_24 : decode cX5_take 24 = .ok (.aload_n 0, 1) := by decide +kernel
theorem dX5_take_25 : decode cX5_take 25 = .ok (.dup, 1) := by decide +kernel
theorem dX5_take_26 : decode cX5_take 26 = .ok (.getfield 33, 3) := by decide +kernel
theorem dX5_take_29 : decode cX5_take 29 = .ok (.iconst 1, 1) := by decide +kernel
theorem dX5_take_30 : decode cX5_take 30 = .ok (.iadd, 1) := by decide +kernel
theorem dX5_take_31 : decode cX5_take 31 = .ok (.putfield 33, 3) := by decide +kernel
theorem dX5_take_34 : decode cX5_take 34 = .ok (.aload_n 0, 1) := by decide +kernel
theorem dX5_take_35 : decode cX5_take 35 = .ok (.getfield 36, 3) := by decide +kernel
theorem dX5_take_38 : decode cX5_take 38 = .ok (.iconst 2, 1) := by decide +kernel
theorem dX5_take_39 : decode cX5_take 39 = .ok (.if_icmp .lt 7, 3) := by decide +kernel
theorem dX5_take_42 : decode cX5_take 42 = .ok (.iconst 1, 1) := by decide +kernel
theorem dX5_take_43 : decode cX5_take 43 = .ok (.goto 4, 3) := by decide +kernel
theorem dX5_take_46 : decode cX5_take 46 = .ok (.iconst 0, 1) := by decide +kernel
theorem dX5_take_47 : decode cX5_take 47 = .ok (.istore_n 2, 1) := by decide +kernel
theorem dX5_take_48 : decode cX5_take 48 = .ok (.aload_n 0, 1) := by decide +kernel
theorem dX5_take_49 : decode cX5_take 49 = .ok (.aload_n 0, 1) := by decide +kernel
theorem dX5_take_50 : decode cX5_take 50 = .ok (.getfield 26, 3) := by decide +kernel
theorem dX5_take_53 : decode cX5_take 53 = .ok (.iconst (-1), 1) := by decide +kernel
theorem dX5_take_54 : decode cX5_take 54 = .ok (.if_icmp .ne 7, 3) := by decide +kernel
theorem dX5_take_57 : decode cX5_take 57 = .ok (.iload_n 2, 1) := by decide +kernel
theorem dX5_take_58 : decode cX5_take 58 = .ok (.ifCond .eq 10, 3) := by decide +kernel
theorem dX5_take_61 : decode cX5_take 61 = .ok (.aload_n 0, 1) := by decide +kernel
theorem dX5_take_62 : decode cX5_take 62 = .ok (.getfield 26, 3) := by decide +kernel
theorem dX5_take_65 : decode cX5_take 65 = .ok (.goto 7, 3) := by decide +kernel
theorem dX5_take_68 : decode cX5_take 68 = .ok (.aload_n 0, 1) := by decide +kernel
theorem dX5_take_69 : decode cX5_take 69 = .ok (.getfield 33, 3) := by decide +kernel
theorem dX5_take_72 : decode cX5_take 72 = .ok (.putfield 9, 3) := by decide +kernel
theorem dX5_take_75 : decode cX5_take 75 = .ok (.aload_n 0, 1) := by decide +kernel
theorem dX5_take_76 : decode cX5_take 76 = .ok (.aload_n 0, 1) := by decide +kernel
theorem dX5_take_77 : decode cX5_take 77 = .ok (.getfield 9, 3) := by decide +kernel
theorem dX5_take_80 : decode cX5_take 80 = .ok (.iconst (-1), 1) := by decide +kernel
theorem dX5_take_81 : decode cX5_take 81 = .ok (.if_icmp .ne 10, 3) := by decide +kernel
theorem dX5_take_84 : decode cX5_take 84 = .ok (.aload_n 0, 1) := by decide +kernel
theorem dX5_take_85 : decode cX5_take 85 = .ok (.getfield 39, 3) := by decide +kernel
theorem dX5_take_88 : decode cX5_take 88 = .ok (.goto 4, 3) := by decide +kernel
theorem dX5_take_91 : decode cX5_take 91 = .ok (.iconst 0, 1) := by decide +kernel
theorem dX5_take_92 : decode cX5_take 92 = .ok (.putfield 42, 3) := by decide +kernel
theorem dX5_take_95 : decode cX5_take 95 = .ok (.aload_n 0, 1) := by decide +kernel
theorem dX5_take_96 : decode cX5_take 96 = .ok (.getfield 33, 3) := by decide +kernel
theorem dX5_take_99 : decode cX5_take 99 = .ok (.ireturn, 1) := by decide +kernel
theorem dX5_clear_0 : decode cX5_clear 0 = .ok (.aload_n 0, 1) := by decide +kernel
theorem dX5_clear_1 : decode cX5_clear 1 = .ok (.getfield 33, 3) := by decide +kernel
theorem dX5_clear_4 : decode cX5_clear 4 = .ok (.istore_n 1, 1) := by decide +kernel
theorem dX5_clear_5 : decode cX5_clear 5 = .ok (.aload_n 0, 1) := by decide +kernel
theorem dX5_clear_6 : decode cX5_clear 6 = .ok (.iconst 0, 1) := by decide +kernel
theorem dX5_clear_7 : decode cX5_clear 7 = .ok (.putfield 33, 3) := by decide +kernel
theorem dX5_clear_10 : decode cX5_clear 10 = .ok (.aload_n 0, 1) := by decide +kernel
theorem dX5_clear_11 : decode cX5_clear 11 = .ok (.iconst 0, 1) := by decide +kernel
theorem dX5_clear_12 : decode cX5_clear 12 = .ok (.putfield 42, 3) := by decide +kernel
theorem dX5_clear_15 : decode cX5_clear 15 = .ok (.aload_n 0, 1) := by decide +kernel
theorem dX5_clear_16 : decode cX5_clear 16 = .ok (.iconst (-1), 1) := by decide +kernel
theorem dX5_clear_17 : decode cX5_clear 17 = .ok (.putfield 9, 3) := by decide +kernel
theorem dX5_clear_20 : decode cX5_clear 20 = .ok (.aload_n 0, 1) := by decide +kernel
theorem dX5_clear_21 : decode cX5_clear 21 = .ok (.iconst 0, 1) := by decide +kernel
theorem dX5_clear_22 : decode cX5_clear 22 = .ok (.putfield 39, 3) := by decide +kernel
theorem dX5_clear_25 : decode cX5_clear 25 = .ok (.aload_n 0, 1) := by decide +kernel
theorem dX5_clear_26 : decode cX5_clear 26 = .ok (.iconst 0, 1) := by decide +kernel
theorem dX5_clear_27 : decode cX5_clear 27 = .ok (.putfield 36, 3) := by decide +kernel
theorem dX5_clear_30 : decode cX5_clear 30 = .ok (.aload_n 0, 1) := by decide +kernel
theorem dX5_clear_31 : decode cX5_clear 31 = .ok (.iconst (-1), 1) := by decide +kernel
theorem dX5_clear_32 : decode cX5_clear 32 = .ok (.putfield 26, 3) := by decide +kernel
theorem dX5_clear_35 : decode cX5_clear 35 = .ok (.iconst 0, 1) := by decide +kernel
theorem dX5_clear_36 : decode cX5_clear 36 = .ok (.istore_n 2, 1) := by decide +kernel
theorem dX5_clear_37 : decode cX5_clear 37 = .ok (.iload_n 2, 1) := by decide +kernel
theorem dX5_clear_38 : decode cX5_clear 38 = .ok (.iconst 4, 1) := by decide +kernel
theorem dX5_clear_39 : decode cX5_clear 39 = .ok (.if_icmp .ge 15, 3) := by decide +kernel
theorem dX5_clear_42 : decode cX5_clear 42 = .ok (.aload_n 0, 1) := by decide +kernel
theorem dX5_clear_43 : decode cX5_clear 43 = .ok (.iload_n 2, 1) := by decide +kernel
theorem dX5_clear_44 : decode cX5_clear 44 = .ok (.iconst 0, 1) := by decide +kernel
theorem dX5_clear_45 : decode cX5_clear 45 = .ok (.invokevirtual 45, 3) := by decide +kernel
theorem dX5_clear_48 : decode cX5_clear 48 = .ok (.iinc 2 1, 3) := by decide +kernel
theorem dX5_clear_51 : decode cX5_clear 51 = .ok (.goto (-14), 3) := by decide +kernel
theorem dX5_clear_54 : decode cX5_clear 54 = .ok (.iload_n 1, 1) := by decide +kernel
theorem dX5_clear_55 : decode cX5_clear 55 = .ok (.ireturn, 1) := by decide +kernel
theorem dX5_goesOn_0 : decode cX5_goesOn 0 = .ok (.aload_n 0, 1) := by decide +kernel
theorem dX5_goesOn_1 : decode cX5_goesOn 1 = .ok (.getfield 36, 3) := by decide +kernel
theorem dX5_goesOn_4 : decode cX5_goesOn 4 = .ok (.lookupswitch 48 #[(0, 28), (1, 37)], 28) := by decide +kernel
theorem dX5_goesOn_32 : decode cX5_goesOn 32 = .ok (.aload_n 0, 1) := by decide +kernel
theorem dX5_goesOn_33 : decode cX5_goesOn 33 = .ok (.iload_n 1, 1) := by decide +kernel
theorem dX5_goesOn_34 : decode cX5_goesOn 34 = .ok (.invokestatic 49, 3) := by decide +kernel
theorem dX5_goesOn_37 : decode cX5_goesOn 37 = .ok (.invokevirtual 53, 3) := by decide +kernel
theorem dX5_goesOn_40 : decode cX5_goesOn 40 = .ok (.ireturn, 1) := by decide +kernel
theorem dX5_goesOn_41 : decode cX5_goesOn 41 = .ok (.aload_n 0, 1) := by decide +kernel
theorem dX5_goesOn_42 : decode cX5_goesOn 42 = .ok (.iload_n 1, 1) := by decide +kernel
theorem dX5_goesOn_43 : decode cX5_goesOn 43 = .ok (.iconst 0, 1) := by decide +kernel
theorem dX5_goesOn_44 : decode cX5_goesOn 44 = .ok (.iconst 4, 1) := by decide +kernel
theorem dX5_goesOn_45 : decode cX5_goesOn 45 = .ok (.invokestatic 56, 3) := by decide +kernel
theorem dX5_goesOn_48 : decode cX5_goesOn 48 = .ok (.invokevirtual 60, 3) := by decide +kernel
theorem dX5_goesOn_51 : decode cX5_goesOn 51 = .ok (.ireturn, 1) := by decide +kernel
theorem dX5_goesOn_52 : decode cX5_goesOn 52 = .ok (.aload_n 0, 1) := by decide +kernel
theorem dX5_goesOn_53 : decode cX5_goesOn 53 = .ok (.iload_n 1, 1) := by decide +kernel
theorem dX5_goesOn_54 : decode cX5_goesOn 54 = .ok (.invokevirtual 63, 3) := by decide +kernel
theorem dX5_goesOn_57 : decode cX5_goesOn 57 = .ok (.ireturn, 1) := by decide +kernel
theorem dX5_takeKind_0 : decode cX5_takeKind 0 = .ok (.iload_n 1, 1) := by decide +kernel
theorem dX5_takeKind_1 : decode cX5_takeKind 1 = .ok (.iconst (-1), 1) := by decide +kernel
theorem dX5_takeKind_2 : decode cX5_takeKind 2 = .ok (.if_icmp .ne 5, 3) := by decide +kernel
theorem dX5_takeKind_5 : decode cX5_takeKind 5 = .ok (.iconst 0, 1) := by decide +kernel
theorem dX5_takeKind_6 : decode cX5_takeKind 6 = .ok (.ireturn, 1) := by decide +kernel
theorem dX5_takeKind_7 : decode cX5_takeKind 7 = .ok (.aload_n 0, 1) := by decide +kernel
theorem dX5_takeKind_8 : decode cX5_takeKind 8 = .ok (.iload_n 1, 1) := by decide +kernel
theorem dX5_takeKind_9 : decode cX5_takeKind 9 = .ok (.putfield 66, 3) := by decide +kernel
theorem dX5_takeKind_12 : decode cX5_takeKind 12 = .ok (.aload_n 0, 1) := by decide +kernel
theorem dX5_takeKind_13 : decode cX5_takeKind 13 = .ok (.iconst 1, 1) := by decide +kernel
theorem dX5_takeKind_14 : decode cX5_takeKind 14 = .ok (.putfield 36, 3) := by decide +kernel
theorem dX5_takeKind_17 : decode cX5_takeKind 17 = .ok (.iconst 1, 1) := by decide +kernel
theorem dX5_takeKind_18 : decode cX5_takeKind 18 = .ok (.ireturn, 1) := by decide +kernel
theorem dX5_takeMany_0 : decode cX5_takeMany 0 = .ok (.iload_n 1, 1) := by decide +kernel
theorem dX5_takeMany_1 : decode cX5_takeMany 1 = .ok (.iconst (-1), 1) := by decide +kernel
theorem dX5_takeMany_2 : decode cX5_takeMany 2 = .ok (.if_icmp .ne 5, 3) := by decide +kernel
theorem dX5_takeMany_5 : decode cX5_takeMany 5 = .ok (.iconst 0, 1) := by decide +kernel
theorem dX5_takeMany_6 : decode cX5_takeMany 6 = .ok (.ireturn, 1) := by decide +kernel
theorem dX5_takeMany_7 : decode cX5_takeMany 7 = .ok (.aload_n 0, 1) := by decide +kernel
theorem dX5_takeMany_8 : decode cX5_takeMany 8 = .ok (.aload_n 0, 1) := by decide +kernel
theorem dX5_takeMany_9 : decode cX5_takeMany 9 = .ok (.getfield 66, 3) := by decide +kernel
theorem dX5_takeMany_12 : decode cX5_takeMany 12 = .ok (.iload_n 1, 1) := by decide +kernel
theorem dX5_takeMany_13 : decode cX5_takeMany 13 = .ok (.invokevirtual 45, 3) := by decide +kernel
theorem dX5_takeMany_16 : decode cX5_takeMany 16 = .ok (.aload_n 0, 1) := by decide +kernel
theorem dX5_takeMany_17 : decode cX5_takeMany 17 = .ok (.dup, 1) := by decide +kernel
theorem dX5_takeMany_18 : decode cX5_takeMany 18 = .ok (.getfield 39, 3) := by decide +kernel
theorem dX5_takeMany_21 : decode cX5_takeMany 21 = .ok (.iconst 1, 1) := by decide +kernel
theorem dX5_takeMany_22 : decode cX5_takeMany 22 = .ok (.iadd, 1) := by decide +kernel
theorem dX5_takeMany_23 : decode cX5_takeMany 23 = .ok (.putfield 39, 3) := by decide +kernel
theorem dX5_takeMany_26 : decode cX5_takeMany 26 = .ok (.aload_n 0, 1) := by decide +kernel
theorem dX5_takeMany_27 : decode cX5_takeMany 27 = .ok (.iconst 2, 1) := by decide +kernel
theorem dX5_takeMany_28 : decode cX5_takeMany 28 = .ok (.putfield 36, 3) := by decide +kernel
theorem dX5_takeMany_31 : decode cX5_takeMany 31 = .ok (.iconst 1, 1) := by decide +kernel
theorem dX5_takeMany_32 : decode cX5_takeMany 32 = .ok (.ireturn, 1) := by decide +kernel
theorem dX5_takeMark_0 : decode cX5_takeMark 0 = .ok (.iload_n 1, 1) := by decide +kernel
theorem dX5_takeMark_1 : decode cX5_takeMark 1 = .ok (.bipush 59, 2) := by decide +kernel
theorem dX5_takeMark_3 : decode cX5_takeMark 3 = .ok (.if_icmp .ne 10, 3) := by decide +kernel
theorem dX5_takeMark_6 : decode cX5_takeMark 6 = .ok (.aload_n 0, 1) := by decide +kernel
theorem dX5_takeMark_7 : decode cX5_takeMark 7 = .ok (.iconst 0, 1) := by decide +kernel
theorem dX5_takeMark_8 : decode cX5_takeMark 8 = .ok (.putfield 36, 3) := by decide +kernel
theorem dX5_takeMark_11 : decode cX5_takeMark 11 = .ok (.iconst 1, 1) := by decide +kernel
theorem dX5_takeMark_12 : decode cX5_takeMark 12 = .ok (.ireturn, 1) := by decide +kernel
theorem dX5_takeMark_13 : decode cX5_takeMark 13 = .ok (.iload_n 1, 1) := by decide +kernel
theorem dX5_takeMark_14 : decode cX5_takeMark 14 = .ok (.bipush 119, 2) := by decide +kernel
theorem dX5_takeMark_16 : decode cX5_takeMark 16 = .ok (.if_icmp .ne 28, 3) := by decide +kernel
theorem dX5_takeMark_19 : decode cX5_takeMark 19 = .ok (.aload_n 0, 1) := by decide +kernel
theorem dX5_takeMark_20 : decode cX5_takeMark 20 = .ok (.getfield 36, 3) := by decide +kernel
theorem dX5_takeMark_23 : decode cX5_takeMark 23 = .ok (.iconst 3, 1) := by decide +kernel
theorem dX5_takeMark_24 : decode cX5_takeMark 24 = .ok (.if_icmp .ge 20, 3) := by decide +kernel
theorem dX5_takeMark_27 : decode cX5_takeMark 27 = .ok (.aload_n 0, 1) := by decide +kernel
theorem dX5_takeMark_28 : decode cX5_takeMark 28 = .ok (.getfield 19, 3) := by decide +kernel
theorem dX5_takeMark_31 : decode cX5_takeMark 31 = .ok (.aload_n 0, 1) := by decide +kernel
theorem dX5_takeMark_32 : decode cX5_takeMark 32 = .ok (.getfield 66, 3) := by decide +kernel
theorem dX5_takeMark_35 : decode cX5_takeMark 35 = .ok (.iconst 1, 1) := by decide +kernel
theorem dX5_takeMark_36 : decode cX5_takeMark 36 = .ok (.bastore, 1) := by decide +kernel
theorem dX5_takeMark_37 : decode cX5_takeMark 37 = .ok (.aload_n 0, 1) := by decide +kernel
theorem dX5_takeMark_38 : decode cX5_takeMark 38 = .ok (.iconst 3, 1) := by decide +kernel
theorem dX5_takeMark_39 : decode cX5_takeMark 39 = .ok (.putfield 36, 3) := by decide +kernel
theorem dX5_takeMark_42 : decode cX5_takeMark 42 = .ok (.iconst 1, 1) := by decide +kernel
theorem dX5_takeMark_43 : decode cX5_takeMark 43 = .ok (.ireturn, 1) := by decide +kernel
theorem dX5_takeMark_44 : decode cX5_takeMark 44 = .ok (.iload_n 1, 1) := by decide +kernel
theorem dX5_takeMark_45 : decode cX5_takeMark 45 = .ok (.bipush 104, 2) := by decide +kernel
theorem dX5_takeMark_47 : decode cX5_takeMark 47 = .ok (.if_icmp .ne 28, 3) := by decide +kernel
theorem dX5_takeMark_50 : decode cX5_takeMark 50 = .ok (.aload_n 0, 1) := by decide +kernel
theorem dX5_takeMark_51 : decode cX5_takeMark 51 = .ok (.getfield 36, 3) := by decide +kernel
theorem dX5_takeMark_54 : decode cX5_takeMark 54 = .ok (.iconst 4, 1) := by decide +kernel
theorem dX5_takeMark_55 : decode cX5_takeMark 55 = .ok (.if_icmp .ge 20, 3) := by decide +kernel
theorem dX5_takeMark_58 : decode cX5_takeMark 58 = .ok (.aload_n 0, 1) := by decide +kernel
theorem dX5_takeMark_59 : decode cX5_takeMark 59 = .ok (.getfield 23, 3) := by decide +kernel
theorem dX5_takeMark_62 : decode cX5_takeMark 62 = .ok (.aload_n 0, 1) := by decide +kernel
theorem dX5_takeMark_63 : decode cX5_takeMark 63 = .ok (.getfield 66, 3) := by decide +kernel
theorem dX5_takeMark_66 : decode cX5_takeMark 66 = .ok (.iconst 1, 1) := by decide +kernel
theorem dX5_takeMark_67 : decode cX5_takeMark 67 = .ok (.bastore, 1) := by decide +kernel
theorem dX5_takeMark_68 : decode cX5_takeMark 68 = .ok (.aload_n 0, 1) := by decide +kernel
theorem dX5_takeMark_69 : decode cX5_takeMark 69 = .ok (.iconst 4, 1) := by decide +kernel
theorem dX5_takeMark_70 : decode cX5_takeMark 70 = .ok (.putfield 36, 3) := by decide +kernel
theorem dX5_takeMark_73 : decode cX5_takeMark 73 = .ok (.iconst 1, 1) := by decide +kernel
theorem dX5_takeMark_74 : decode cX5_takeMark 74 = .ok (.ireturn, 1) := by decide +kernel
theorem dX5_takeMark_75 : decode cX5_takeMark 75 = .ok (.iconst 0, 1) := by decide +kernel
theorem dX5_takeMark_76 : decode cX5_takeMark 76 = .ok (.ireturn, 1) := by decide +kernel
theorem dX5_say_0 : decode cX5_say 0 = .ok (.aload_n 0, 1) := by decide +kernel
theorem dX5_say_1 : decode cX5_say 1 = .ok (.getfield 15, 3) := by decide +kernel
theorem dX5_say_4 : decode cX5_say 4 = .ok (.iload_n 1, 1) := by decide +kernel
theorem dX5_say_5 : decode cX5_say 5 = .ok (.iload_n 2, 1) := by decide +kernel
theorem dX5_say_6 : decode cX5_say 6 = .ok (.iastore, 1) := by decide +kernel
theorem dX5_say_7 : decode cX5_say 7 = .ok (.aload_n 0, 1) := by decide +kernel
theorem dX5_say_8 : decode cX5_say 8 = .ok (.getfield 19, 3) := by decide +kernel
theorem dX5_say_11 : decode cX5_say 11 = .ok (.iload_n 1, 1) := by decide +kernel
theorem dX5_say_12 : decode cX5_say 12 = .ok (.iconst 0, 1) := by decide +kernel
theorem dX5_say_13 : decode cX5_say 13 = .ok (.bastore, 1) := by decide +kernel
theorem dX5_say_14 : decode cX5_say 14 = .ok (.aload_n 0, 1) := by decide +kernel
theorem dX5_say_15 : decode cX5_say 15 = .ok (.getfield 23, 3) := by decide +kernel
theorem dX5_say_18 : decode cX5_say 18 = .ok (.iload_n 1, 1) := by decide +kernel
theorem dX5_say_19 : decode cX5_say 19 = .ok (.iconst 0, 1) := by decide +kernel
theorem dX5_say_20 : decode cX5_say 20 = .ok (.bastore, 1) := by decide +kernel
theorem dX5_say_21 : decode cX5_say 21 = .ok (.return_, 1) := by decide +kernel
theorem dX5_needOf_0 : decode cX5_needOf 0 = .ok (.aload_n 0, 1) := by decide +kernel
theorem dX5_needOf_1 : decode cX5_needOf 1 = .ok (.getfield 9, 3) := by decide +kernel
theorem dX5_needOf_4 : decode cX5_needOf 4 = .ok (.iconst (-1), 1) := by decide +kernel
theorem dX5_needOf_5 : decode cX5_needOf 5 = .ok (.if_icmp .ne 12, 3) := by decide +kernel
theorem dX5_needOf_8 : decode cX5_needOf 8 = .ok (.aload_n 0, 1) := by decide +kernel
theorem dX5_needOf_9 : decode cX5_needOf 9 = .ok (.getfield 15, 3) := by decide +kernel
theorem dX5_needOf_12 : decode cX5_needOf 12 = .ok (.iload_n 1, 1) := by decide +kernel
theorem dX5_needOf_13 : decode cX5_needOf 13 = .ok (.iaload, 1) := by decide +kernel
theorem dX5_needOf_14 : decode cX5_needOf 14 = .ok (.goto 4, 3) := by decide +kernel
theorem dX5_needOf_17 : decode cX5_needOf 17 = .ok (.iconst 0, 1) := by decide +kernel
theorem dX5_needOf_18 : decode cX5_needOf 18 = .ok (.ireturn, 1) := by decide +kernel
theorem dX5_asksWeather_0 : decode cX5_asksWeather 0 = .ok (.aload_n 0, 1) := by decide +kernel
theorem dX5_asksWeather_1 : decode cX5_asksWeather 1 = .ok (.getfield 9, 3) := by decide +kernel
theorem dX5_asksWeather_4 : decode cX5_asksWeather 4 = .ok (.iconst (-1), 1) := by decide +kernel
theorem dX5_asksWeather_5 : decode cX5_asksWeather 5 = .ok (.if_icmp .ne 16, 3) := by decide +kernel
theorem dX5_asksWeather_8 : decode cX5_asksWeather 8 = .ok (.aload_n 0, 1) := by decide +kernel
theorem dX5_asksWeather_9 : decode cX5_asksWeather 9 = .ok (.getfield 19, 3) := by decide +kernel
theorem dX5_asksWeather_12 : decode cX5_asksWeather 12 = .ok (.iload_n 1, 1) := by decide +kernel
theorem dX5_asksWeather_13 : decode cX5_asksWeather 13 = .ok (.baload, 1) := by decide +kernel
theorem dX5_asksWeather_14 : decode cX5_asksWeather 14 = .ok (.ifCond .eq 7, 3) := by decide +kernel
theorem dX5_asksWeather_17 : decode cX5_asksWeather 17 = .ok (.iconst 1, 1) := by decide +kernel
theorem dX5_asksWeather_18 : decode cX5_asksWeather 18 = .ok (.goto 4, 3) := by decide +kernel
theorem dX5_asksWeather_21 : decode cX5_asksWeather 21 = .ok (.iconst 0, 1) := by decide +kernel
theorem dX5_asksWeather_22 : decode cX5_asksWeather 22 = .ok (.ireturn, 1) := by decide +kernel
theorem dX5_asksPlace_0 : decode cX5_asksPlace 0 = .ok (.aload_n 0, 1) := by decide +kernel
theorem dX5_asksPlace_1 : decode cX5_asksPlace 1 = .ok (.getfield 9, 3) := by decide +kernel
theorem dX5_asksPlace_4 : decode cX5_asksPlace 4 = .ok (.iconst (-1), 1) := by decide +kernel
theorem dX5_asksPlace_5 : decode cX5_asksPlace 5 = .ok (.if_icmp .ne 16, 3) := by decide +kernel
theorem dX5_asksPlace_8 : decode cX5_asksPlace 8 = .ok (.aload_n 0, 1) := by decide +kernel
theorem dX5_asksPlace_9 : decode cX5_asksPlace 9 = .ok (.getfield 23, 3) := by decide +kernel
theorem dX5_asksPlace_12 : decode cX5_asksPlace 12 = .ok (.iload_n 1, 1) := by decide +kernel
theorem dX5_asksPlace_13 : decode cX5_asksPlace 13 = .ok (.baload, 1) := by decide +kernel
theorem dX5_asksPlace_14 : decode cX5_asksPlace 14 = .ok (.ifCond .eq 7, 3) := by decide +kernel
theorem dX5_asksPlace_17 : decode cX5_asksPlace 17 = .ok (.iconst 1, 1) := by decide +kernel
theorem dX5_asksPlace_18 : decode cX5_asksPlace 18 = .ok (.goto 4, 3) := by decide +kernel
theorem dX5_asksPlace_21 : decode cX5_asksPlace 21 = .ok (.iconst 0, 1) := by decide +kernel
theorem dX5_asksPlace_22 : decode cX5_asksPlace 22 = .ok (.ireturn, 1) := by decide +kernel
theorem dX6_init_0 : decode cX6_init 0 = .ok (.aload_n 0, 1) := by decide +kernel
theorem dX6_init_1 : decode cX6_init 1 = .ok (.invokespecial 3, 3) := by decide +kernel
theorem dX6_init_4 : decode cX6_init 4 = .ok (.aload_n 0, 1) := by decide +kernel
theorem dX6_init_5 : decode cX6_init 5 = .ok (.iconst 4, 1) := by decide +kernel
theorem dX6_init_6 : decode cX6_init 6 = .ok (.bipush 60, 2) := by decide +kernel
theorem dX6_init_8 : decode cX6_init 8 = .ok (.multianewarray 11 2, 4) := by decide +kernel
theorem dX6_init_12 : decode cX6_init 12 = .ok (.putfield 13, 3) := by decide +kernel
theorem dX6_init_15 : decode cX6_init 15 = .ok (.aload_n 0, 1) := by decide +kernel
theorem dX6_init_16 : decode cX6_init 16 = .ok (.iconst 4, 1) := by decide +kernel
theorem dX6_init_17 : decode cX6_init 17 = .ok (.newarray .int, 2) := by decide +kernel
theorem dX6_init_19 : decode cX6_init 19 = .ok (.putfield 16, 3) := by decide +kernel
theorem dX6_init_22 : decode cX6_init 22 = .ok (.aload_n 0, 1) := by decide +kernel
theorem dX6_init_23 : decode cX6_init 23 = .ok (.iconst 4, 1) := by decide +kernel
theorem dX6_init_24 : decode cX6_init 24 = .ok (.newarray .int, 2) := by decide +kernel
theorem dX6_init_26 : decode cX6_init 26 = .ok (.putfield 20, 3) := by decide +kernel
theorem dX6_init_29 : decode cX6_init 29 = .ok (.iconst 0, 1) := by decide +kernel
theorem dX6_init_30 : decode cX6_init 30 = .ok (.istore_n 1, 1) := by decide +kernel
theorem dX6_init_31 : decode cX6_init 31 = .ok (.iload_n 1, 1) := by decide +kernel
theorem dX6_init_32 : decode cX6_init 32 = .ok (.iconst 4, 1) := by decide +kernel
theorem dX6_init_33 : decode cX6_init 33 = .ok (.if_icmp .ge 16, 3) := by decide +kernel
theorem dX6_init_36 : decode cX6_init 36 = .ok (.aload_n 0, 1) := by decide +kernel
theorem dX6_init_37 : decode cX6_init 37 = .ok (.getfield 16, 3) := by decide +kernel
theorem dX6_init_40 : decode cX6_init 40 = .ok (.iload_n 1, 1) := by decide +kernel
theorem dX6_init_41 : decode cX6_init 41 = .ok (.iconst (-1), 1) := by decide +kernel
theorem dX6_init_42 : decode cX6_init 42 = .ok (.iastore, 1) := by decide +kernel
theorem dX6_init_43 : decode cX6_init 43 = .ok (.iinc 1 1, 3) := by decide +kernel
theorem dX6_init_46 : decode cX6_init 46 = .ok (.goto (-15), 3) := by decide +kernel
theorem dX6_init_49 : decode cX6_init 49 = .ok (.return_, 1) := by decide +kernel
theorem dX6_isNumber_0 : decode cX6_isNumber 0 = .ok (.iload_n 0, 1) := by decide +kernel
theorem dX6_isNumber_1 : decode cX6_isNumber 1 = .ok (.iconst 3, 1) := by decide +kernel
theorem dX6_isNumber_2 : decode cX6_isNumber 2 = .ok (.invokestatic 23, 3) := by decide +kernel
theorem dX6_isNumber_5 : decode cX6_isNumber 5 = .ok (.ireturn, 1) := by decide +kernel
theorem dX6_isForm_0 : decode cX6_isForm 0 = .ok (.iload_n 0, 1) := by decide +kernel
theorem dX6_isForm_1 : decode cX6_isForm 1 = .ok (.iconst 2, 1) := by decide +kernel
theorem dX6_isForm_2 : decode cX6_isForm 2 = .ok (.invokestatic 23, 3) := by decide +kernel
theorem dX6_isForm_5 : decode cX6_isForm 5 = .ok (.ireturn, 1) := by decide +kernel
theorem dX6_isLost_0 : decode cX6_isLost 0 = .ok (.aload_n 0, 1) := by decide +kernel
theorem dX6_isLost_1 : decode cX6_isLost 1 = .ok (.getfield 16, 3) := by decide +kernel
theorem dX6_isLost_4 : decode cX6_isLost 4 = .ok (.iload_n 1, 1) := by decide +kernel
theorem dX6_isLost_5 : decode cX6_isLost 5 = .ok (.iaload, 1) := by decide +kernel
theorem dX6_isLost_6 : decode cX6_isLost 6 = .ok (.iconst (-1), 1) := by decide +kernel
theorem dX6_isLost_7 : decode cX6_isLost 7 = .ok (.if_icmp .ne 7, 3) := by decide +kernel
theorem dX6_isLost_10 : decode cX6_isLost 10 = .ok (.iconst 1, 1) := by decide +kernel
theorem dX6_isLost_11 : decode cX6_isLost 11 = .ok (.goto 4, 3) := by decide +kernel
theorem dX6_isLost_14 : decode cX6_isLost 14 = .ok (.iconst 0, 1) := by decide +kernel
theorem dX6_isLost_15 : decode cX6_isLost 15 = .ok (.ireturn, 1) := by decide +kernel
theorem dX6_tell_0 : decode cX6_tell 0 = .ok (.aload_n 0, 1) := by decide +kernel
theorem dX6_tell_1 : decode cX6_tell 1 = .ok (.iload_n 1, 1) := by decide +kernel
theorem dX6_tell_2 : decode cX6_tell 2 = .ok (.putfield 27, 3) := by decide +kernel
theorem dX6_tell_5 : decode cX6_tell 5 = .ok (.bipush (-10), 2) := by decide +kernel
theorem dX6_tell_7 : decode cX6_tell 7 = .ok (.iload_n 1, 1) := by decide +kernel
theorem dX6_tell_8 : decode cX6_tell 8 = .ok (.isub, 1) := by decide +kernel
theorem dX6_tell_9 : decode cX6_tell 9 = .ok (.ireturn, 1) := by decide +kernel
theorem dX6_renew_0 : decode cX6_renew 0 = .ok (.aload_n 0, 1) := by decide +kernel
theorem dX6_renew_1 : decode cX6_renew 1 = .ok (.getfield 16, 3) := by decide +kernel
theorem dX6_renew_4 : decode cX6_renew 4 = .ok (.iload_n 1, 1) := by decide +kernel
theorem dX6_renew_5 : decode cX6_renew 5 = .ok (.iload_n 2, 1) := by decide +kernel
theorem dX6_renew_6 : decode cX6_renew 6 = .ok (.iastore, 1) := by decide +kernel
theorem dX6_renew_7 : decode cX6_renew 7 = .ok (.aload_n 0, 1) := by decide +kernel
theorem dX6_renew_8 : decode cX6_renew 8 = .ok (.getfield 20, 3) := by decide +kernel
theorem dX6_renew_11 : decode cX6_renew 11 = .ok (.iload_n 1, 1) := by decide +kernel
theorem dX6_renew_12 : decode cX6_renew 12 = .ok (.iload_n 3, 1) := by decide +kernel
theorem dX6_renew_13 : decode cX6_renew 13 = .ok (.iastore, 1) := by decide +kernel
theorem dX6_renew_14 : decode cX6_renew 14 = .ok (.iconst 0, 1) := by decide +kernel
theorem dX6_renew_15 : decode cX6_renew 15 = .ok (.istore 4, 2) := by decide +kernel
theorem dX6_renew_17 : decode cX6_renew 17 = .ok (.iload 4, 2) := by decide +kernel
theorem dX6_renew_19 : decode cX6_renew 19 = .ok (.bipush 60, 2) := by decide +kernel
theorem dX6_renew_21 : decode cX6_renew 21 = .ok (.if_icmp .ge 19, 3) := by decide +kernel
theorem dX6_renew_24 : decode cX6_renew 24 = .ok (.aload_n 0, 1) := by decide +kernel
theorem dX6_renew_25 : decode cX6_renew 25 = .ok (.getfield 13, 3) := by decide +kernel
theorem dX6_renew_28 : decode cX6_renew 28 = .ok (.iload_n 1, 1) := by decide +kernel
theorem dX6_renew_29 : decode cX6_renew 29 = .ok (.aaload, 1) := by decide +kernel
theorem dX6_renew_30 : decode cX6_renew 30 = .ok (.iload 4, 2) := by decide +kernel
theorem dX6_renew_32 : decode cX6_renew 32 = .ok (.iconst 0, 1) := by decide +kernel
theorem dX6_renew_33 : decode cX6_renew 33 = .ok (.iastore, 1) := by decide +kernel
theorem dX6_renew_34 : decode cX6_renew 34 = .ok (.iinc 4 1, 3) := by decide +kernel
theorem dX6_renew_37 : decode cX6_renew 37 = .ok (.goto (-20), 3) := by decide +kernel
theorem dX6_renew_40 : decode cX6_renew 40 = .ok (.iload_n 3, 1) := by decide +kernel
theorem dX6_renew_41 : decode cX6_renew 41 = .ok (.ireturn, 1) := by decide +kernel
theorem dX6_drop_0 : decode cX6_drop 0 = .ok (.aload_n 0, 1) := by decide +kernel
theorem dX6_drop_1 : decode cX6_drop 1 = .ok (.getfield 16, 3) := by decide +kernel
theorem dX6_drop_4 : decode cX6_drop 4 = .ok (.iload_n 1, 1) := by decide +kernel
theorem dX6_drop_5 : decode cX6_drop 5 = .ok (.iconst (-1), 1) := by decide +kernel
theorem dX6_drop_6 : decode cX6_drop 6 = .ok (.iastore, 1) := by decide +kernel
theorem dX6_drop_7 : decode cX6_drop 7 = .ok (.aload_n 0, 1) := by decide +kernel
theorem dX6_drop_8 : decode cX6_drop 8 = .ok (.getfield 20, 3) := by decide +kernel
theorem dX6_drop_11 : decode cX6_drop 11 = .ok (.iload_n 1, 1) := by decide +kernel
theorem dX6_drop_12 : decode cX6_drop 12 = .ok (.iaload, 1) := by decide +kernel
theorem dX6_drop_13 : decode cX6_drop 13 = .ok (.ireturn, 1) := by decide +kernel
theorem dX6_findingAt_0 : decode cX6_findingAt 0 = .ok (.aload_n 0, 1) := by decide +kernel
theorem dX6_findingAt_1 : decode cX6_findingAt 1 = .ok (.iload_n 1, 1) := by decide +kernel
theorem dX6_findingAt_2 : decode cX6_findingAt 2 = .ok (.invokevirtual 31, 3) := by decide +kernel
theorem dX6_findingAt_5 : decode cX6_findingAt 5 = .ok (.ifCond .eq 5, 3) := by decide +kernel
theorem dX6_findingAt_8 : decode cX6_findingAt 8 = .ok (.iconst 1, 1) := by decide +kernel
theorem dX6_findingAt_9 : decode cX6_findingAt 9 = .ok (.ireturn, 1) := by decide +kernel
theorem dX6_findingAt_10 : decode cX6_findingAt 10 = .ok (.aload_n 0, 1) := by decide +kernel
theorem dX6_findingAt_11 : decode cX6_findingAt 11 = .ok (.getfield 16, 3) := by decide +kernel
theorem dX6_findingAt_14 : decode cX6_findingAt 14 = .ok (.iload_n 1, 1) := by decide +kernel
theorem dX6_findingAt_15 : decode cX6_findingAt 15 = .ok (.iaload, 1) := by decide +kernel
theorem dX6_findingAt_16 : decode cX6_findingAt 16 = .ok (.iload_n 2, 1) := by decide +kernel
theorem dX6_findingAt_17 : decode cX6_findingAt 17 = .ok (.if_icmp .eq 5, 3) := by decide +kernel
theorem dX6_findingAt_20 : decode cX6_findingAt 20 = .ok (.iconst 3, 1) := by decide +kernel
theorem dX6_findingAt_21 : decode cX6_findingAt 21 = .ok (.ireturn, 1) := by decide +kernel
theorem dX6_findingAt_22 : decode cX6_findingAt 22 = .ok (.iload_n 3, 1) := by decide +kernel
theorem dX6_findingAt_23 : decode cX6_findingAt 23 = .ok (.aload_n 0, 1) := by decide +kernel
theorem dX6_findingAt_24 : decode cX6_findingAt 24 = .ok (.getfield 20, 3) := by decide +kernel
theorem dX6_findingAt_27 : decode cX6_findingAt 27 = .ok (.iload_n 1, 1) := by decide +kernel
theorem dX6_findingAt_28 : decode cX6_findingAt 28 = .ok (.iaload, 1) := by decide +kernel
theorem dX6_findingAt_29 : decode cX6_findingAt 29 = .ok (.iconst 1, 1) := by decide +kernel
theorem dX6_findingAt_30 : decode cX6_findingAt 30 = .ok (.isub, 1) := by decide +kernel
theorem dX6_findingAt_31 : decode cX6_findingAt 31 = .ok (.invokestatic 23, 3) := by decide +kernel
theorem dX6_findingAt_34 : decode cX6_findingAt 34 = .ok (.ifCond .eq 7, 3) := by decide +kernel
theorem dX6_findingAt_37 : decode cX6_findingAt 37 = .ok (.iconst 0, 1) := by decide +kernel
theorem dX6_findingAt_38 : decode cX6_findingAt 38 = .ok (.goto 4, 3) := by decide +kernel
theorem dX6_findingAt_41 : decode cX6_findingAt 41 = .ok (.iconst 2, 1) := by decide +kernel
theorem dX6_findingAt_42 : decode cX6_findingAt 42 = .ok (.ireturn, 1) := by decide +kernel
theorem dX6_hasSpan_0 : decode cX6_hasSpan 0 = .ok (.iload_n 2, 1) := by decide +kernel
theorem dX6_hasSpan_1 : decode cX6_hasSpan 1 = .ok (.ifCond .lt 23, 3) := by decide +kernel
theorem dX6_hasSpan_4 : decode cX6_hasSpan 4 = .ok (.iload_n 3, 1) := by decide +kernel
theorem dX6_hasSpan_5 : decode cX6_hasSpan 5 = .ok (.ifCond .lt 19, 3) := by decide +kernel
theorem dX6_hasSpan_8 : decode cX6_hasSpan 8 = .ok (.iload_n 2, 1) := by decide +kernel
theorem dX6_hasSpan_9 : decode cX6_hasSpan 9 = .ok (.aload_n 0, 1) := by decide +kernel
theorem dX6_hasSpan_10 : decode cX6_hasSpan 10 = .ok (.getfield 20, 3) := by decide +kernel
theorem dX6_hasSpan_13 : decode cX6_hasSpan 13 = .ok (.iload_n 1, 1) := by decide +kernel
theorem dX6_hasSpan_14 : decode cX6_hasSpan 14 = .ok (.iaload, 1) := by decide +kernel
theorem dX6_hasSpan_15 : decode cX6_hasSpan 15 = .ok (.iload_n 3, 1) := by decide +kernel
theorem dX6_hasSpan_16 : decode cX6_hasSpan 16 = .ok (.isub, 1) := by decide +kernel
theorem dX6_hasSpan_17 : decode cX6_hasSpan 17 = .ok (.if_icmp .gt 7, 3) := by decide +kernel
theorem dX6_hasSpan_20 : decode cX6_hasSpan 20 = .ok (.iconst 1, 1) := by decide +kernel
theorem dX6_hasSpan_21 : decode cX6_hasSpan 21 = .ok (.goto 4, 3) := by decide +kernel
theorem dX6_hasSpan_24 : decode cX6_hasSpan 24 = .ok (.iconst 0, 1) := by decide +kernel
theorem dX6_hasSpan_25 : decode cX6_hasSpan 25 = .ok (.ireturn, 1) := by decide +kernel
theorem dX6_store_0 : decode cX6_store 0 = .ok (.aload_n 0, 1) := by decide +kernel
theorem dX6_store_1 : decode cX6_store 1 = .ok (.getfield 16, 3) := by decide +kernel
theorem dX6_store_4 : decode cX6_store 4 = .ok (.iload_n 1, 1) := by decide +kernel
theorem dX6_store_5 : decode cX6_store 5 = .ok (.iaload, 1) := by decide +kernel
theorem dX6_store_6 : decode cX6_store 6 = .ok (.ifCond .ne 16, 3) := by decide +kernel
theorem dX6_store_9 : decode cX6_store 9 = .ok (.aload_n 0, 1) := by decide +kernel
theorem dX6_store_10 : decode cX6_store 10 = .ok (.getfield 13, 3) := by decide +kernel
theorem dX6_store_13 : decode cX6_store 13 = .ok (.iload_n 1, 1) := by decide +kernel
theorem dX6_store_14 : decode cX6_store 14 = .ok (.aaload, 1) := by decide +kernel
theorem dX6_store_15 : decode cX6_store 15 = .ok (.iload_n 2, 1) := by decide +kernel
theorem dX6_store_16 : decode cX6_store 16 = .ok (.iload_n 3, 1) := by decide +kernel
theorem dX6_store_17 : decode cX6_store 17 = .ok (.i2b, 1) := by decide +kernel
theorem dX6_store_18 : decode cX6_store 18 = .ok (.iastore, 1) := by decide +kernel
theorem dX6_store_19 : decode cX6_store 19 = .ok (.goto 35, 3) := by decide +kernel
theorem dX6_store_22 : decode cX6_store 22 = .ok (.aload_n 0, 1) := by decide +kernel
theorem dX6_store_23 : decode cX6_store 23 = .ok (.getfield 16, 3) := by decide +kernel
theorem dX6_store_26 : decode cX6_store 26 = .ok (.iload_n 1, 1) := by decide +kernel
theorem dX6_store_27 : decode cX6_store 27 = .ok (.iaload, 1) := by decide +kernel
theorem dX6_store_28 : decode cX6_store 28 = .ok (.iconst 1, 1) := by decide +kernel
theorem dX6_store_29 : decode cX6_store 29 = .ok (.if_icmp .ne 16, 3) := by decide +kernel
theorem dX6_store_32 : decode cX6_store 32 = .ok (.aload_n 0, 1) := by decide +kernel
theorem dX6_store_33 : decode cX6_store 33 = .ok (.getfield 13, 3) := by decide +kernel
theorem dX6_store_36 : decode cX6_store 36 = .ok (.iload_n 1, 1) := by decide +kernel
theorem dX6_store_37 : decode cX6_store 37 = .ok (.aaload, 1) := by decide +kernel
theorem dX6_store_38 : decode cX6_store 38 = .ok (.iload_n 2, 1) := by decide +kernel
theorem dX6_store_39 : decode cX6_store 39 = .ok (.iload_n 3, 1) := by decide +kernel
theorem dX6_store_40 : decode cX6_store 40 = .ok (.i2s, 1) := by decide +kernel
theorem dX6_store_41 : decode cX6_store 41 = .ok (.iastore, 1) := by decide +kernel
theorem dX6_store_42 : decode cX6_store 42 = .ok (.goto 12, 3) := by decide +kernel
theorem dX6_store_45 : decode cX6_store 45 = .ok (.aload_n 0, 1) := by decide +kernel
theorem dX6_store_46 : decode cX6_store 46 = .ok (.getfield 13, 3) := by decide +kernel
theorem dX6_store_49 : decode cX6_store 49 = .ok (.iload_n 1, 1) := by decide +kernel
theorem dX6_store_50 : decode cX6_store 50 = .ok (.aaload, 1) := by decide +kernel
theorem dX6_store_51 : decode cX6_store 51 = .ok (.iload_n 2, 1) := by decide +kernel
theorem dX6_store_52 : decode cX6_store 52 = .ok (.iload_n 3, 1) := by decide +kernel
theorem dX6_store_53 : decode cX6_store 53 = .ok (.iastore, 1) := by decide +kernel
theorem dX6_store_54 : decode cX6_store 54 = .ok (.return_, 1) := by decide +kernel
theorem dX7_init_0 : decode cX7_init 0 = .ok (.aload_n 0, 1) := by decide +kernel
theorem dX7_init_1 : decode cX7_init 1 = .ok (.invokespecial 1, 3) := by decide +kernel
theorem dX7_init_4 : decode cX7_init 4 = .ok (.aload_n 0, 1) := by decide +kernel
theorem dX7_init_5 : decode cX7_init 5 = .ok (.bipush 10, 2) := by decide +kernel
theorem dX7_init_7 : decode cX7_init 7 = .ok (.newarray .int, 2) := by decide +kernel
theorem dX7_init_9 : decode cX7_init 9 = .ok (.putfield 9, 3) := by decide +kernel
theorem dX7_init_12 : decode cX7_init 12 = .ok (.aload_n 0, 1) := by decide +kernel
theorem dX7_init_13 : decode cX7_init 13 = .ok (.bipush 10, 2) := by decide +kernel
theorem dX7_init_15 : decode cX7_init 15 = .ok (.newarray .int, 2) := by decide +kernel
theorem dX7_init_17 : decode cX7_init 17 = .ok (.putfield 13, 3) := by decide +kernel
theorem dX7_init_20 : decode cX7_init 20 = .ok (.aload_n 0, 1) := by decide +kernel
theorem dX7_init_21 : decode cX7_init 21 = .ok (.bipush 10, 2) := by decide +kernel
theorem dX7_init_23 : decode cX7_init 23 = .ok (.newarray .int, 2) := by decide +kernel
theorem dX7_init_25 : decode cX7_init 25 = .ok (.putfield 16, 3) := by decide +kernel
theorem dX7_init_28 : decode cX7_init 28 = .ok (.aload_n 0, 1) := by decide +kernel
theorem dX7_init_29 : decode cX7_init 29 = .ok (.bipush 10, 2) := by decide +kernel
theorem dX7_init_31 : decode cX7_init 31 = .ok (.newarray .int, 2) := by decide +kernel
theorem dX7_init_33 : decode cX7_init 33 = .ok (.putfield 19, 3) := by decide +kernel
theorem dX7_init_36 : decode cX7_init 36 = .ok (.return_, 1) := by decide +kernel
theorem dX7_isFull_0 : decode cX7_isFull 0 = .ok (.aload_n 0, 1) := by decide +kernel
theorem dX7_isFull_1 : decode cX7_isFull 1 = .ok (.getfield 22, 3) := by decide +kernel
theorem dX7_isFull_4 : decode cX7_isFull 4 = .ok (.bipush 10, 2) := by decide +kernel
theorem dX7_isFull_6 : decode cX7_isFull 6 = .ok (.if_icmp .lt 7, 3) := by decide +kernel
theorem dX7_isFull_9 : decode cX7_isFull 9 = .ok (.iconst 1, 1) := by decide +kernel
theorem dX7_isFull_10 : decode cX7_isFull 10 = .ok (.goto 4, 3) := by decide +kernel
theorem dX7_isFull_13 : decode cX7_isFull 13 = .ok (.iconst 0, 1) := by decide +kernel
theorem dX7_isFull_14 : decode cX7_isFull 14 = .ok (.ireturn, 1) := by decide +kernel
theorem dX7_add_0 : decode cX7_add 0 = .ok (.aload_n 0, 1) := by decide +kernel
theorem dX7_add_1 : decode cX7_add 1 = .ok (.getfield 22, 3) := by decide +kernel
theorem dX7_add_4 : decode cX7_add 4 = .ok (.istore 4, 2) := by decide +kernel
theorem dX7_add_6 : decode cX7_add 6 = .ok (.iload 4, 2) := by decide +kernel
theorem dX7_add_8 : decode cX7_add 8 = .ok (.bipush 10, 2) := by decide +kernel
theorem dX7_add_10 : decode cX7_add 10 = .ok (.if_icmp .ge 48, 3) := by decide +kernel
theorem dX7_add_13 : decode cX7_add 13 = .ok (.aload_n 0, 1) := by decide +kernel
theorem dX7_add_14 : decode cX7_add 14 = .ok (.getfield 9, 3) := by decide +kernel
theorem dX7_add_17 : decode cX7_add 17 = .ok (.iload 4, 2) := by decide +kernel
theorem dX7_add_19 : decode cX7_add 19 = .ok (.iload_n 1, 1) := by decide +kernel
theorem dX7_add_20 : decode cX7_add 20 = .ok (.iastore, 1) := by decide +kernel
theorem dX7_add_21 : decode cX7_add 21 = .ok (.aload_n 0, 1) := by decide +kernel
theorem dX7_add_22 : decode cX7_add 22 = .ok (.getfield 13, 3) := by decide +kernel
theorem dX7_add_25 : decode cX7_add 25 = .ok (.iload 4, 2) := by decide +kernel
theorem dX7_add_27 : decode cX7_add 27 = .ok (.iload_n 2, 1) := by decide +kernel
theorem dX7_add_28 : decode cX7_add 28 = .ok (.iastore, 1) := by decide +kernel
theorem dX7_add_29 : decode cX7_add 29 = .ok (.aload_n 0, 1) := by decide +kernel
theorem dX7_add_30 : decode cX7_add 30 = .ok (.getfield 16, 3) := by decide +kernel
theorem dX7_add_33 : decode cX7_add 33 = .ok (.iload 4, 2) := by decide +kernel
theorem dX7_add_35 : decode cX7_add 35 = .ok (.iload_n 3, 1) := by decide +kernel
theorem dX7_add_36 : decode cX7_add 36 = .ok (.iastore, 1) := by decide +kernel
theorem dX7_add_37 : decode cX7_add 37 = .ok (.aload_n 0, 1) := by decide +kernel
theorem dX7_add_38 : decode cX7_add 38 = .ok (.dup, 1) := by decide +kernel
theorem dX7_add_39 : decode cX7_add 39 = .ok (.getfield 22, 3) := by decide +kernel
theorem dX7_add_42 : decode cX7_add 42 = .ok (.iconst 1, 1) := by decide +kernel
theorem dX7_add_43 : decode cX7_add 43 = .ok (.iadd, 1) := by decide +kernel
theorem dX7_add_44 : decode cX7_add 44 = .ok (.putfield 22, 3) := by decide +kernel
theorem dX7_add_47 : decode cX7_add 47 = .ok (.aload_n 0, 1) := by decide +kernel
theorem dX7_add_48 : decode cX7_add 48 = .ok (.iconst 1, 1) := by decide +kernel
theorem dX7_add_49 : decode cX7_add 49 = .ok (.putfield 26, 3) := by decide +kernel
theorem dX7_add_52 : decode cX7_add 52 = .ok (.aload_n 0, 1) := by decide +kernel
theorem dX7_add_53 : decode cX7_add 53 = .ok (.iload 4, 2) := by decide +kernel
theorem dX7_add_55 : decode cX7_add 55 = .ok (.invokevirtual 30, 3) := by decide +kernel
theorem dX7_add_58 : decode cX7_add 58 = .ok (.iload 4, 2) := by decide +kernel
theorem dX7_add_60 : decode cX7_add 60 = .ok (.ireturn, 1) := by decide +kernel
theorem dX7_meetFoes_0 : decode cX7_meetFoes 0 = .ok (.aload_n 0, 1) := by decide +kernel
theorem dX7_meetFoes_1 : decode cX7_meetFoes 1 = .ok (.getfield 19, 3) := by decide +kernel
theorem dX7_meetFoes_4 : decode cX7_meetFoes 4 = .ok (.iload_n 1, 1) := by decide +kernel
theorem dX7_meetFoes_5 : decode cX7_meetFoes 5 = .ok (.iconst 0, 1) := by decide +kernel
theorem dX7_meetFoes_6 : decode cX7_meetFoes 6 = .ok (.iastore, 1) := by decide +kernel
theorem dX7_meetFoes_7 : decode cX7_meetFoes 7 = .ok (.iconst 0, 1) := by decide +kernel
theorem dX7_meetFoes_8 : decode cX7_meetFoes 8 = .ok (.istore_n 2, 1) := by decide +kernel
theorem dX7_meetFoes_9 : decode cX7_meetFoes 9 = .ok (.iload_n 2, 1) := by decide +kernel
theorem dX7_meetFoes_10 : decode cX7_meetFoes 10 = .ok (.iload_n 1, 1) := by decide +kernel
theorem dX7_meetFoes_11 : decode cX7_meetFoes 11 = .ok (.if_icmp .ge 42, 3) := by decide +kernel
theorem dX7_meetFoes_14 : decode cX7_meetFoes 14 = .ok (.aload_n 0, 1) := by decide +kernel
theorem dX7_meetFoes_15 : decode cX7_meetFoes 15 = .ok (.iload_n 2, 1) := by decide +kernel
theorem dX7_meetFoes_16 : decode cX7_meetFoes 16 = .ok (.iload_n 1, 1) := by decide +kernel
