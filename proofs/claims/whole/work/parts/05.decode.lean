theorem dX9_isOn_3 : decode cX9_isOn 3 = .ok (.istore_n 3, 1) := by decide +kernel
theorem dX9_isOn_4 : decode cX9_isOn 4 = .ok (.iload_n 3, 1) := by decide +kernel
theorem dX9_isOn_5 : decode cX9_isOn 5 = .ok (.iconst 3, 1) := by decide +kernel
theorem dX9_isOn_6 : decode cX9_isOn 6 = .ok (.if_icmp .ge 29, 3) := by decide +kernel
theorem dX9_isOn_9 : decode cX9_isOn 9 = .ok (.iload_n 2, 1) := by decide +kernel
theorem dX9_isOn_10 : decode cX9_isOn 10 = .ok (.ifCond .ne 13, 3) := by decide +kernel
theorem dX9_isOn_13 : decode cX9_isOn 13 = .ok (.aload_n 0, 1) := by decide +kernel
theorem dX9_isOn_14 : decode cX9_isOn 14 = .ok (.getfield 56, 3) := by decide +kernel
theorem dX9_isOn_17 : decode cX9_isOn 17 = .ok (.iload_n 3, 1) := by decide +kernel
theorem dX9_isOn_18 : decode cX9_isOn 18 = .ok (.iaload, 1) := by decide +kernel
theorem dX9_isOn_19 : decode cX9_isOn 19 = .ok (.iload_n 1, 1) := by decide +kernel
theorem dX9_isOn_20 : decode cX9_isOn 20 = .ok (.if_icmp .ne 7, 3) := by decide +kernel
theorem dX9_isOn_23 : decode cX9_isOn 23 = .ok (.iconst 1, 1) := by decide +kernel
theorem dX9_isOn_24 : decode cX9_isOn 24 = .ok (.goto 4, 3) := by decide +kernel
theorem dX9_isOn_27 : decode cX9_isOn 27 = .ok (.iconst 0, 1) := by decide +kernel
theorem dX9_isOn_28 : decode cX9_isOn 28 = .ok (.istore_n 2, 1) := by decide +kernel
theorem dX9_isOn_29 : decode cX9_isOn 29 = .ok (.iinc 3 1, 3) := by decide +kernel
theorem dX9_isOn_32 : decode cX9_isOn 32 = .ok (.goto (-28), 3) := by decide +kernel
theorem dX9_isOn_35 : decode cX9_isOn 35 = .ok (.iload_n 2, 1) := by decide +kernel
theorem dX9_isOn_36 : decode cX9_isOn 36 = .ok (.ireturn, 1) := by decide +kernel
theorem dX9_first_0 : decode cX9_first 0 = .ok (.iconst (-1), 1) := by decide +kernel
theorem dX9_first_1 : decode cX9_first 1 = .ok (.istore_n 3, 1) := by decide +kernel
theorem dX9_first_2 : decode cX9_first 2 = .ok (.aload_n 0, 1) := by decide +kernel
theorem dX9_first_3 : decode cX9_first 3 = .ok (.getfield 107, 3) := by decide +kernel
theorem dX9_first_6 : decode cX9_first 6 = .ok (.iconst 1, 1) := by decide +kernel
theorem dX9_first_7 : decode cX9_first 7 = .ok (.isub, 1) := by decide +kernel
theorem dX9_first_8 : decode cX9_first 8 = .ok (.istore 4, 2) := by decide +kernel
theorem dX9_first_10 : decode cX9_first 10 = .ok (.iload 4, 2) := by decide +kernel
theorem dX9_first_12 : decode cX9_first 12 = .ok (.ifCond .lt 81, 3) := by decide +kernel
theorem dX9_first_15 : decode cX9_first 15 = .ok (.iload_n 2, 1) := by decide +kernel
theorem dX9_first_16 : decode cX9_first 16 = .ok (.ifCond .eq 27, 3) := by decide +kernel
theorem dX9_first_19 : decode cX9_first 19 = .ok (.aload_n 0, 1) := by decide +kernel
theorem dX9_first_20 : decode cX9_first 20 = .ok (.getfield 47, 3) := by decide +kernel
theorem dX9_first_23 : decode cX9_first 23 = .ok (.iload 4, 2) := by decide +kernel
theorem dX9_first_25 : decode cX9_first 25 = .ok (.iaload, 1) := by decide +kernel
theorem dX9_first_26 : decode cX9_first 26 = .ok (.aload_n 0, 1) := by decide +kernel
theorem dX9_first_27 : decode cX9_first 27 = .ok (.getfield 56, 3) := by decide +kernel
theorem dX9_first_30 : decode cX9_first 30 = .ok (.iload_n 1, 1) := by decide +kernel
theorem dX9_first_31 : decode cX9_first 31 = .ok (.iaload, 1) := by decide +kernel
theorem dX9_first_32 : decode cX9_first 32 = .ok (.if_icmp .ne 7, 3) := by decide +kernel
theorem dX9_first_35 : decode cX9_first 35 = .ok (.iconst 1, 1) := by decide +kernel
theorem dX9_first_36 : decode cX9_first 36 = .ok (.goto 26, 3) := by decide +kernel
theorem dX9_first_39 : decode cX9_first 39 = .ok (.iconst 0, 1) := by decide +kernel
theorem dX9_first_40 : decode cX9_first 40 = .ok (.goto 22, 3) := by decide +kernel
theorem dX9_first_43 : decode cX9_first 43 = .ok (.aload_n 0, 1) := by decide +kernel
theorem dX9_first_44 : decode cX9_first 44 = .ok (.aload_n 0, 1) := by decide +kernel
theorem dX9_first_45 : decode cX9_first 45 = .ok (.getfield 47, 3) := by decide +kernel
theorem dX9_first_48 : decode cX9_first 48 = .ok (.iload 4, 2) := by decide +kernel
theorem dX9_first_50 : decode cX9_first 50 = .ok (.iaload, 1) := by decide +kernel
theorem dX9_first_51 : decode cX9_first 51 = .ok (.invokevirtual 114, 3) := by decide +kernel
theorem dX9_first_54 : decode cX9_first 54 = .ok (.ifCond .ne 7, 3) := by decide +kernel
theorem dX9_first_57 : decode cX9_first 57 = .ok (.iconst 1, 1) := by decide +kernel
theorem dX9_first_58 : decode cX9_first 58 = .ok (.goto 4, 3) := by decide +kernel
theorem dX9_first_61 : decode cX9_first 61 = .ok (.iconst 0, 1) := by decide +kernel
theorem dX9_first_62 : decode cX9_first 62 = .ok (.istore 5, 2) := by decide +kernel
theorem dX9_first_64 : decode cX9_first 64 = .ok (.aload_n 0, 1) := by decide +kernel
theorem dX9_first_65 : decode cX9_first 65 = .ok (.getfield 53, 3) := by decide +kernel
theorem dX9_first_68 : decode cX9_first 68 = .ok (.iload 4, 2) := by decide +kernel
theorem dX9_first_70 : decode cX9_first 70 = .ok (.iaload, 1) := by decide +kernel
theorem dX9_first_71 : decode cX9_first 71 = .ok (.iconst (-1), 1) := by decide +kernel
theorem dX9_first_72 : decode cX9_first 72 = .ok (.if_icmp .ne 13, 3) := by decide +kernel
theorem dX9_first_75 : decode cX9_first 75 = .ok (.iload 5, 2) := by decide +kernel
theorem dX9_first_77 : decode cX9_first 77 = .ok (.ifCond .eq 8, 3) := by decide +kernel
theorem dX9_first_80 : decode cX9_first 80 = .ok (.iload 4, 2) := by decide +kernel
theorem dX9_first_82 : decode cX9_first 82 = .ok (.goto 4, 3) := by decide +kernel
theorem dX9_first_85 : decode cX9_first 85 = .ok (.iload_n 3, 1) := by decide +kernel
theorem dX9_first_86 : decode cX9_first 86 = .ok (.istore_n 3, 1) := by decide +kernel
theorem dX9_first_87 : decode cX9_first 87 = .ok (.iinc 4 (-1), 3) := by decide +kernel
theorem dX9_first_90 : decode cX9_first 90 = .ok (.goto (-80), 3) := by decide +kernel
theorem dX9_first_93 : decode cX9_first 93 = .ok (.iload_n 3, 1) := by decide +kernel
theorem dX9_first_94 : decode cX9_first 94 = .ok (.ireturn, 1) := by decide +kernel
theorem dX9_toCut_0 : decode cX9_toCut 0 = .ok (.iconst 0, 1) := by decide +kernel
theorem dX9_toCut_1 : decode cX9_toCut 1 = .ok (.istore_n 2, 1) := by decide +kernel
theorem dX9_toCut_2 : decode cX9_toCut 2 = .ok (.iconst 0, 1) := by decide +kernel
theorem dX9_toCut_3 : decode cX9_toCut 3 = .ok (.istore_n 3, 1) := by decide +kernel
theorem dX9_toCut_4 : decode cX9_toCut 4 = .ok (.iload_n 3, 1) := by decide +kernel
theorem dX9_toCut_5 : decode cX9_toCut 5 = .ok (.aload_n 0, 1) := by decide +kernel
theorem dX9_toCut_6 : decode cX9_toCut 6 = .ok (.getfield 107, 3) := by decide +kernel
theorem dX9_toCut_9 : decode cX9_toCut 9 = .ok (.if_icmp .ge 38, 3) := by decide +kernel
theorem dX9_toCut_12 : decode cX9_toCut 12 = .ok (.iload_n 2, 1) := by decide +kernel
theorem dX9_toCut_13 : decode cX9_toCut 13 = .ok (.aload_n 0, 1) := by decide +kernel
theorem dX9_toCut_14 : decode cX9_toCut 14 = .ok (.getfield 44, 3) := by decide +kernel
theorem dX9_toCut_17 : decode cX9_toCut 17 = .ok (.iload_n 3, 1) := by decide +kernel
theorem dX9_toCut_18 : decode cX9_toCut 18 = .ok (.iaload, 1) := by decide +kernel
theorem dX9_toCut_19 : decode cX9_toCut 19 = .ok (.iload_n 1, 1) := by decide +kernel
theorem dX9_toCut_20 : decode cX9_toCut 20 = .ok (.if_icmp .ne 18, 3) := by decide +kernel
theorem dX9_toCut_23 : decode cX9_toCut 23 = .ok (.aload_n 0, 1) := by decide +kernel
theorem dX9_toCut_24 : decode cX9_toCut 24 = .ok (.getfield 53, 3) := by decide +kernel
theorem dX9_toCut_27 : decode cX9_toCut 27 = .ok (.iload_n 3, 1) := by decide +kernel
theorem dX9_toCut_28 : decode cX9_toCut 28 = .ok (.iaload, 1) := by decide +kernel
theorem dX9_toCut_29 : decode cX9_toCut 29 = .ok (.bipush (-2), 2) := by decide +kernel
theorem dX9_toCut_31 : decode cX9_toCut 31 = .ok (.if_icmp .eq 7, 3) := by decide +kernel
theorem dX9_toCut_34 : decode cX9_toCut 34 = .ok (.iconst 1, 1) := by decide +kernel
theorem dX9_toCut_35 : decode cX9_toCut 35 = .ok (.goto 4, 3) := by decide +kernel
theorem dX9_toCut_38 : decode cX9_toCut 38 = .ok (.iconst 0, 1) := by decide +kernel
theorem dX9_toCut_39 : decode cX9_toCut 39 = .ok (.iadd, 1) := by decide +kernel
theorem dX9_toCut_40 : decode cX9_toCut 40 = .ok (.istore_n 2, 1) := by decide +kernel
theorem dX9_toCut_41 : decode cX9_toCut 41 = .ok (.iinc 3 1, 3) := by decide +kernel
theorem dX9_toCut_44 : decode cX9_toCut 44 = .ok (.goto (-40), 3) := by decide +kernel
theorem dX9_toCut_47 : decode cX9_toCut 47 = .ok (.iload_n 2, 1) := by decide +kernel
theorem dX9_toCut_48 : decode cX9_toCut 48 = .ok (.ireturn, 1) := by decide +kernel
theorem dX9_takes_0 : decode cX9_takes 0 = .ok (.aload_n 0, 1) := by decide +kernel
theorem dX9_takes_1 : decode cX9_takes 1 = .ok (.iload_n 1, 1) := by decide +kernel
theorem dX9_takes_2 : decode cX9_takes 2 = .ok (.iconst 1, 1) := by decide +kernel
theorem dX9_takes_3 : decode cX9_takes 3 = .ok (.invokevirtual 117, 3) := by decide +kernel
theorem dX9_takes_6 : decode cX9_takes 6 = .ok (.istore_n 2, 1) := by decide +kernel
theorem dX9_takes_7 : decode cX9_takes 7 = .ok (.iload_n 2, 1) := by decide +kernel
theorem dX9_takes_8 : decode cX9_takes 8 = .ok (.iconst (-1), 1) := by decide +kernel
theorem dX9_takes_9 : decode cX9_takes 9 = .ok (.if_icmp .ne 12, 3) := by decide +kernel
theorem dX9_takes_12 : decode cX9_takes 12 = .ok (.aload_n 0, 1) := by decide +kernel
theorem dX9_takes_13 : decode cX9_takes 13 = .ok (.iload_n 1, 1) := by decide +kernel
theorem dX9_takes_14 : decode cX9_takes 14 = .ok (.iconst 0, 1) := by decide +kernel
theorem dX9_takes_15 : decode cX9_takes 15 = .ok (.invokevirtual 117, 3) := by decide +kernel
theorem dX9_takes_18 : decode cX9_takes 18 = .ok (.goto 4, 3) := by decide +kernel
theorem dX9_takes_21 : decode cX9_takes 21 = .ok (.iload_n 2, 1) := by decide +kernel
theorem dX9_takes_22 : decode cX9_takes 22 = .ok (.istore_n 3, 1) := by decide +kernel
theorem dX9_takes_23 : decode cX9_takes 23 = .ok (.iload_n 3, 1) := by decide +kernel
theorem dX9_takes_24 : decode cX9_takes 24 = .ok (.iconst (-1), 1) := by decide +kernel
theorem dX9_takes_25 : decode cX9_takes 25 = .ok (.if_icmp .eq 52, 3) := by decide +kernel
theorem dX9_takes_28 : decode cX9_takes 28 = .ok (.aload_n 0, 1) := by decide +kernel
theorem dX9_takes_29 : decode cX9_takes 29 = .ok (.getfield 56, 3) := by decide +kernel
theorem dX9_takes_32 : decode cX9_takes 32 = .ok (.iload_n 1, 1) := by decide +kernel
theorem dX9_takes_33 : decode cX9_takes 33 = .ok (.aload_n 0, 1) := by decide +kernel
theorem dX9_takes_34 : decode cX9_takes 34 = .ok (.getfield 47, 3) := by decide +kernel
theorem dX9_takes_37 : decode cX9_takes 37 = .ok (.iload_n 3, 1) := by decide +kernel
theorem dX9_takes_38 : decode cX9_takes 38 = .ok (.iaload, 1) := by decide +kernel
theorem dX9_takes_39 : decode cX9_takes 39 = .ok (.iastore, 1) := by decide +kernel
theorem dX9_takes_40 : decode cX9_takes 40 = .ok (.aload_n 0, 1) := by decide +kernel
theorem dX9_takes_41 : decode cX9_takes 41 = .ok (.getfield 59, 3) := by decide +kernel
theorem dX9_takes_44 : decode cX9_takes 44 = .ok (.iload_n 1, 1) := by decide +kernel
theorem dX9_takes_45 : decode cX9_takes 45 = .ok (.iload_n 3, 1) := by decide +kernel
theorem dX9_takes_46 : decode cX9_takes 46 = .ok (.iastore, 1) := by decide +kernel
theorem dX9_takes_47 : decode cX9_takes 47 = .ok (.aload_n 0, 1) := by decide +kernel
theorem dX9_takes_48 : decode cX9_takes 48 = .ok (.getfield 62, 3) := by decide +kernel
theorem dX9_takes_51 : decode cX9_takes 51 = .ok (.iload_n 1, 1) := by decide +kernel
theorem dX9_takes_52 : decode cX9_takes 52 = .ok (.aload_n 0, 1) := by decide +kernel
theorem dX9_takes_53 : decode cX9_takes 53 = .ok (.getfield 50, 3) := by decide +kernel
theorem dX9_takes_56 : decode cX9_takes 56 = .ok (.iload_n 3, 1) := by decide +kernel
theorem dX9_takes_57 : decode cX9_takes 57 = .ok (.iaload, 1) := by decide +kernel
theorem dX9_takes_58 : decode cX9_takes 58 = .ok (.iload_n 2, 1) := by decide +kernel
theorem dX9_takes_59 : decode cX9_takes 59 = .ok (.iconst (-1), 1) := by decide +kernel
theorem dX9_takes_60 : decode cX9_takes 60 = .ok (.if_icmp .ne 7, 3) := by decide +kernel
theorem dX9_takes_63 : decode cX9_takes 63 = .ok (.iconst 3, 1) := by decide +kernel
theorem dX9_takes_64 : decode cX9_takes 64 = .ok (.goto 4, 3) := by decide +kernel
theorem dX9_takes_67 : decode cX9_takes 67 = .ok (.iconst 0, 1) := by decide +kernel
theorem dX9_takes_68 : decode cX9_takes 68 = .ok (.iadd, 1) := by decide +kernel
theorem dX9_takes_69 : decode cX9_takes 69 = .ok (.iastore, 1) := by decide +kernel
theorem dX9_takes_70 : decode cX9_takes 70 = .ok (.aload_n 0, 1) := by decide +kernel
theorem dX9_takes_71 : decode cX9_takes 71 = .ok (.getfield 53, 3) := by decide +kernel
theorem dX9_takes_74 : decode cX9_takes 74 = .ok (.iload_n 3, 1) := by decide +kernel
theorem dX9_takes_75 : decode cX9_takes 75 = .ok (.iload_n 1, 1) := by decide +kernel
theorem dX9_takes_76 : decode cX9_takes 76 = .ok (.iastore, 1) := by decide +kernel
theorem dX9_takes_77 : decode cX9_takes 77 = .ok (.return_, 1) := by decide +kernel
theorem dX9_tick_0 : decode cX9_tick 0 = .ok (.iconst 0, 1) := by decide +kernel
theorem dX9_tick_1 : decode cX9_tick 1 = .ok (.istore_n 1, 1) := by decide +kernel
theorem dX9_tick_2 : decode cX9_tick 2 = .ok (.aload_n 0, 1) := by decide +kernel
theorem dX9_tick_3 : decode cX9_tick 3 = .ok (.dup, 1) := by decide +kernel
theorem dX9_tick_4 : decode cX9_tick 4 = .ok (.getfield 121, 3) := by decide +kernel
theorem dX9_tick_7 : decode cX9_tick 7 = .ok (.iconst 1, 1) := by decide +kernel
theorem dX9_tick_8 : decode cX9_tick 8 = .ok (.iadd, 1) := by decide +kernel
theorem dX9_tick_9 : decode cX9_tick 9 = .ok (.putfield 121, 3) := by decide +kernel
theorem dX9_tick_12 : decode cX9_tick 12 = .ok (.iconst 0, 1) := by decide +kernel
theorem dX9_tick_13 : decode cX9_tick 13 = .ok (.istore_n 2, 1) := by decide +kernel
theorem dX9_tick_14 : decode cX9_tick 14 = .ok (.iload_n 2, 1) := by decide +kernel
theorem dX9_tick_15 : decode cX9_tick 15 = .ok (.iconst 3, 1) := by decide +kernel
theorem dX9_tick_16 : decode cX9_tick 16 = .ok (.if_icmp .ge 24, 3) := by decide +kernel
theorem dX9_tick_19 : decode cX9_tick 19 = .ok (.aload_n 0, 1) := by decide +kernel
theorem dX9_tick_20 : decode cX9_tick 20 = .ok (.getfield 59, 3) := by decide +kernel
theorem dX9_tick_23 : decode cX9_tick 23 = .ok (.iload_n 2, 1) := by decide +kernel
theorem dX9_tick_24 : decode cX9_tick 24 = .ok (.iaload, 1) := by decide +kernel
theorem dX9_tick_25 : decode cX9_tick 25 = .ok (.iconst (-1), 1) := by decide +kernel
theorem dX9_tick_26 : decode cX9_tick 26 = .ok (.if_icmp .ne 8, 3) := by decide +kernel
theorem dX9_tick_29 : decode cX9_tick 29 = .ok (.aload_n 0, 1) := by decide +kernel
theorem dX9_tick_30 : decode cX9_tick 30 = .ok (.iload_n 2, 1) := by decide +kernel
theorem dX9_tick_31 : decode cX9_tick 31 = .ok (.invokevirtual 124, 3) := by decide +kernel
theorem dX9_tick_34 : decode cX9_tick 34 = .ok (.iinc 2 1, 3) := by decide +kernel
theorem dX9_tick_37 : decode cX9_tick 37 = .ok (.goto (-23), 3) := by decide +kernel
theorem dX9_tick_40 : decode cX9_tick 40 = .ok (.iconst 0, 1) := by decide +kernel
theorem dX9_tick_41 : decode cX9_tick 41 = .ok (.istore_n 2, 1) := by decide +kernel
theorem dX9_tick_42 : decode cX9_tick 42 = .ok (.iload_n 2, 1) := by decide +kernel
theorem dX9_tick_43 : decode cX9_tick 43 = .ok (.iconst 3, 1) := by decide +kernel
theorem dX9_tick_44 : decode cX9_tick 44 = .ok (.if_icmp .ge 95, 3) := by decide +kernel
theorem dX9_tick_47 : decode cX9_tick 47 = .ok (.aload_n 0, 1) := by decide +kernel
theorem dX9_tick_48 : decode cX9_tick 48 = .ok (.getfield 59, 3) := by decide +kernel
theorem dX9_tick_51 : decode cX9_tick 51 = .ok (.iload_n 2, 1) := by decide +kernel
theorem dX9_tick_52 : decode cX9_tick 52 = .ok (.iaload, 1) := by decide +kernel
theorem dX9_tick_53 : decode cX9_tick 53 = .ok (.iconst (-1), 1) := by decide +kernel
theorem dX9_tick_54 : decode cX9_tick 54 = .ok (.if_icmp .eq 79, 3) := by decide +kernel
theorem dX9_tick_57 : decode cX9_tick 57 = .ok (.aload_n 0, 1) := by decide +kernel
theorem dX9_tick_58 : decode cX9_tick 58 = .ok (.getfield 62, 3) := by decide +kernel
theorem dX9_tick_61 : decode cX9_tick 61 = .ok (.iload_n 2, 1) := by decide +kernel
theorem dX9_tick_62 : decode cX9_tick 62 = .ok (.dup2, 1) := by decide +kernel
theorem dX9_tick_63 : decode cX9_tick 63 = .ok (.iaload, 1) := by decide +kernel
theorem dX9_tick_64 : decode cX9_tick 64 = .ok (.iconst 1, 1) := by decide +kernel
theorem dX9_tick_65 : decode cX9_tick 65 = .ok (.isub, 1) := by decide +kernel
theorem dX9_tick_66 : decode cX9_tick 66 = .ok (.iastore, 1) := by decide +kernel
theorem dX9_tick_67 : decode cX9_tick 67 = .ok (.aload_n 0, 1) := by decide +kernel
theorem dX9_tick_68 : decode cX9_tick 68 = .ok (.getfield 62, 3) := by decide +kernel
theorem dX9_tick_71 : decode cX9_tick 71 = .ok (.iload_n 2, 1) := by decide +kernel
theorem dX9_tick_72 : decode cX9_tick 72 = .ok (.iaload, 1) := by decide +kernel
theorem dX9_tick_73 : decode cX9_tick 73 = .ok (.ifCond .ne 60, 3) := by decide +kernel
theorem dX9_tick_76 : decode cX9_tick 76 = .ok (.aload_n 0, 1) := by decide +kernel
theorem dX9_tick_77 : decode cX9_tick 77 = .ok (.getfield 59, 3) := by decide +kernel
theorem dX9_tick_80 : decode cX9_tick 80 = .ok (.iload_n 2, 1) := by decide +kernel
theorem dX9_tick_81 : decode cX9_tick 81 = .ok (.iaload, 1) := by decide +kernel
theorem dX9_tick_82 : decode cX9_tick 82 = .ok (.istore_n 3, 1) := by decide +kernel
theorem dX9_tick_83 : decode cX9_tick 83 = .ok (.aload_n 0, 1) := by decide +kernel
theorem dX9_tick_84 : decode cX9_tick 84 = .ok (.getfield 53, 3) := by decide +kernel
theorem dX9_tick_87 : decode cX9_tick 87 = .ok (.iload_n 3, 1) := by decide +kernel
theorem dX9_tick_88 : decode cX9_tick 88 = .ok (.bipush (-2), 2) := by decide +kernel
theorem dX9_tick_90 : decode cX9_tick 90 = .ok (.iastore, 1) := by decide +kernel
theorem dX9_tick_91 : decode cX9_tick 91 = .ok (.aload_n 0, 1) := by decide +kernel
theorem dX9_tick_92 : decode cX9_tick 92 = .ok (.getfield 59, 3) := by decide +kernel
theorem dX9_tick_95 : decode cX9_tick 95 = .ok (.iload_n 2, 1) := by decide +kernel
theorem dX9_tick_96 : decode cX9_tick 96 = .ok (.iconst (-1), 1) := by decide +kernel
theorem dX9_tick_97 : decode cX9_tick 97 = .ok (.iastore, 1) := by decide +kernel
theorem dX9_tick_98 : decode cX9_tick 98 = .ok (.iinc 1 1, 3) := by decide +kernel
theorem dX9_tick_101 : decode cX9_tick 101 = .ok (.aload_n 0, 1) := by decide +kernel
theorem dX9_tick_102 : decode cX9_tick 102 = .ok (.getfield 34, 3) := by decide +kernel
theorem dX9_tick_105 : decode cX9_tick 105 = .ok (.aload_n 0, 1) := by decide +kernel
theorem dX9_tick_106 : decode cX9_tick 106 = .ok (.getfield 44, 3) := by decide +kernel
theorem dX9_tick_109 : decode cX9_tick 109 = .ok (.iload_n 3, 1) := by decide +kernel
theorem dX9_tick_110 : decode cX9_tick 110 = .ok (.iaload, 1) := by decide +kernel
theorem dX9_tick_111 : decode cX9_tick 111 = .ok (.aload_n 0, 1) := by decide +kernel
theorem dX9_tick_112 : decode cX9_tick 112 = .ok (.aload_n 0, 1) := by decide +kernel
theorem dX9_tick_113 : decode cX9_tick 113 = .ok (.getfield 44, 3) := by decide +kernel
theorem dX9_tick_116 : decode cX9_tick 116 = .ok (.iload_n 3, 1) := by decide +kernel
theorem dX9_tick_117 : decode cX9_tick 117 = .ok (.iaload, 1) := by decide +kernel
theorem dX9_tick_118 : decode cX9_tick 118 = .ok (.invokevirtual 128, 3) := by decide +kernel
theorem dX9_tick_121 : decode cX9_tick 121 = .ok (.ifCond .ne 10, 3) := by decide +kernel
theorem dX9_tick_124 : decode cX9_tick 124 = .ok (.aload_n 0, 1) := by decide +kernel
theorem dX9_tick_125 : decode cX9_tick 125 = .ok (.getfield 121, 3) := by decide +kernel
theorem dX9_tick_128 : decode cX9_tick 128 = .ok (.goto 4, 3) := by decide +kernel
theorem dX9_tick_131 : decode cX9_tick 131 = .ok (.iconst (-1), 1) := by decide +kernel
theorem dX9_tick_132 : decode cX9_tick 132 = .ok (.iastore, 1) := by decide +kernel
theorem dX9_tick_133 : decode cX9_tick 133 = .ok (.iinc 2 1, 3) := by decide +kernel
theorem dX9_tick_136 : decode cX9_tick 136 = .ok (.goto (-94), 3) := by decide +kernel
theorem dX9_tick_139 : decode cX9_tick 139 = .ok (.iload_n 1, 1) := by decide +kernel
theorem dX9_tick_140 : decode cX9_tick 140 = .ok (.ireturn, 1) := by decide +kernel
theorem dX9_pass_0 : decode cX9_pass 0 = .ok (.aload_n 0, 1) := by decide +kernel
theorem dX9_pass_1 : decode cX9_pass 1 = .ok (.iload_n 1, 1) := by decide +kernel
theorem dX9_pass_2 : decode cX9_pass 2 = .ok (.iconst 1, 1) := by decide +kernel
theorem dX9_pass_3 : decode cX9_pass 3 = .ok (.sipush 200, 3) := by decide +kernel
theorem dX9_pass_6 : decode cX9_pass 6 = .ok (.invokestatic 72, 3) := by decide +kernel
theorem dX9_pass_9 : decode cX9_pass 9 = .ok (.ifCond .eq 7, 3) := by decide +kernel
theorem dX9_pass_12 : decode cX9_pass 12 = .ok (.iconst 0, 1) := by decide +kernel
theorem dX9_pass_13 : decode cX9_pass 13 = .ok (.goto 4, 3) := by decide +kernel
theorem dX9_pass_16 : decode cX9_pass 16 = .ok (.iconst 1, 1) := by decide +kernel
theorem dX9_pass_17 : decode cX9_pass 17 = .ok (.putfield 65, 3) := by decide +kernel
theorem dX9_pass_20 : decode cX9_pass 20 = .ok (.iconst 0, 1) := by decide +kernel
theorem dX9_pass_21 : decode cX9_pass 21 = .ok (.istore_n 2, 1) := by decide +kernel
theorem dX9_pass_22 : decode cX9_pass 22 = .ok (.iconst 0, 1) := by decide +kernel
theorem dX9_pass_23 : decode cX9_pass 23 = .ok (.istore_n 3, 1) := by decide +kernel
theorem dX9_pass_24 : decode cX9_pass 24 = .ok (.iload_n 3, 1) := by decide +kernel
theorem dX9_pass_25 : decode cX9_pass 25 = .ok (.iload_n 1, 1) := by decide +kernel
theorem dX9_pass_26 : decode cX9_pass 26 = .ok (.if_icmp .ge 23, 3) := by decide +kernel
theorem dX9_pass_29 : decode cX9_pass 29 = .ok (.aload_n 0, 1) := by decide +kernel
theorem dX9_pass_30 : decode cX9_pass 30 = .ok (.getfield 65, 3) := by decide +kernel
theorem dX9_pass_33 : decode cX9_pass 33 = .ok (.ifCond .ne 16, 3) := by decide +kernel
theorem dX9_pass_36 : decode cX9_pass 36 = .ok (.iload_n 2, 1) := by decide +kernel
theorem dX9_pass_37 : decode cX9_pass 37 = .ok (.aload_n 0, 1) := by decide +kernel
theorem dX9_pass_38 : decode cX9_pass 38 = .ok (.invokevirtual 132, 3) := by decide +kernel
theorem dX9_pass_41 : decode cX9_pass 41 = .ok (.iadd, 1) := by decide +kernel
theorem dX9_pass_42 : decode cX9_pass 42 = .ok (.istore_n 2, 1) := by decide +kernel
theorem dX9_pass_43 : decode cX9_pass 43 = .ok (.iinc 3 1, 3) := by decide +kernel
theorem dX9_pass_46 : decode cX9_pass 46 = .ok (.goto (-22), 3) := by decide +kernel
theorem dX9_pass_49 : decode cX9_pass 49 = .ok (.iload_n 2, 1) := by decide +kernel
theorem dX9_pass_50 : decode cX9_pass 50 = .ok (.ireturn, 1) := by decide +kernel
theorem dX9_time_0 : decode cX9_time 0 = .ok (.aload_n 0, 1) := by decide +kernel
theorem dX9_time_1 : decode cX9_time 1 = .ok (.iconst 0, 1) := by decide +kernel
theorem dX9_time_2 : decode cX9_time 2 = .ok (.putfield 65, 3) := by decide +kernel
theorem dX9_time_5 : decode cX9_time 5 = .ok (.aload_n 0, 1) := by decide +kernel
theorem dX9_time_6 : decode cX9_time 6 = .ok (.getfield 121, 3) := by decide +kernel
theorem dX9_time_9 : decode cX9_time 9 = .ok (.ireturn, 1) := by decide +kernel
theorem dX9_waiting_0 : decode cX9_waiting 0 = .ok (.aload_n 0, 1) := by decide +kernel
theorem dX9_waiting_1 : decode cX9_waiting 1 = .ok (.iconst 0, 1) := by decide +kernel
theorem dX9_waiting_2 : decode cX9_waiting 2 = .ok (.putfield 65, 3) := by decide +kernel
theorem dX9_waiting_5 : decode cX9_waiting 5 = .ok (.iconst 0, 1) := by decide +kernel
theorem dX9_waiting_6 : decode cX9_waiting 6 = .ok (.istore_n 1, 1) := by decide +kernel
theorem dX9_waiting_7 : decode cX9_waiting 7 = .ok (.iconst 0, 1) := by decide +kernel
theorem dX9_waiting_8 : decode cX9_waiting 8 = .ok (.istore_n 2, 1) := by decide +kernel
theorem dX9_waiting_9 : decode cX9_waiting 9 = .ok (.iload_n 2, 1) := by decide +kernel
theorem dX9_waiting_10 : decode cX9_waiting 10 = .ok (.aload_n 0, 1) := by decide +kernel
theorem dX9_waiting_11 : decode cX9_waiting 11 = .ok (.getfield 107, 3) := by decide +kernel
theorem dX9_waiting_14 : decode cX9_waiting 14 = .ok (.if_icmp .ge 27, 3) := by decide +kernel
theorem dX9_waiting_17 : decode cX9_waiting 17 = .ok (.iload_n 1, 1) := by decide +kernel
theorem dX9_waiting_18 : decode cX9_waiting 18 = .ok (.aload_n 0, 1) := by decide +kernel
theorem dX9_waiting_19 : decode cX9_waiting 19 = .ok (.getfield 53, 3) := by decide +kernel
theorem dX9_waiting_22 : decode cX9_waiting 22 = .ok (.iload_n 2, 1) := by decide +kernel
theorem dX9_waiting_23 : decode cX9_waiting 23 = .ok (.iaload, 1) := by decide +kernel
theorem dX9_waiting_24 : decode cX9_waiting 24 = .ok (.iconst (-1), 1) := by decide +kernel
theorem dX9_waiting_25 : decode cX9_waiting 25 = .ok (.if_icmp .ne 7, 3) := by decide +kernel
theorem dX9_waiting_28 : decode cX9_waiting 28 = .ok (.iconst 1, 1) := by decide +kernel
theorem dX9_waiting_29 : decode cX9_waiting 29 = .ok (.goto 4, 3) := by decide +kernel
theorem dX9_waiting_32 : decode cX9_waiting 32 = .ok (.iconst 0, 1) := by decide +kernel
theorem dX9_waiting_33 : decode cX9_waiting 33 = .ok (.iadd, 1) := by decide +kernel
theorem dX9_waiting_34 : decode cX9_waiting 34 = .ok (.istore_n 1, 1) := by decide +kernel
theorem dX9_waiting_35 : decode cX9_waiting 35 = .ok (.iinc 2 1, 3) := by decide +kernel
theorem dX9_waiting_38 : decode cX9_waiting 38 = .ok (.goto (-29), 3) := by decide +kernel
theorem dX9_waiting_41 : decode cX9_waiting 41 = .ok (.iload_n 1, 1) := by decide +kernel
theorem dX9_waiting_42 : decode cX9_waiting 42 = .ok (.ireturn, 1) := by decide +kernel
theorem dX9_cutterOn_0 : decode cX9_cutterOn 0 = .ok (.aload_n 0, 1) := by decide +kernel
theorem dX9_cutterOn_1 : decode cX9_cutterOn 1 = .ok (.iload_n 1, 1) := by decide +kernel
theorem dX9_cutterOn_2 : decode cX9_cutterOn 2 = .ok (.invokevirtual 135, 3) := by decide +kernel
theorem dX9_cutterOn_5 : decode cX9_cutterOn 5 = .ok (.ifCond .eq 12, 3) := by decide +kernel
theorem dX9_cutterOn_8 : decode cX9_cutterOn 8 = .ok (.aload_n 0, 1) := by decide +kernel
theorem dX9_cutterOn_9 : decode cX9_cutterOn 9 = .ok (.getfield 56, 3) := by decide +kernel
theorem dX9_cutterOn_12 : decode cX9_cutterOn 12 = .ok (.iload_n 1, 1) := by decide +kernel
theorem dX9_cutterOn_13 : decode cX9_cutterOn 13 = .ok (.iaload, 1) := by decide +kernel
theorem dX9_cutterOn_14 : decode cX9_cutterOn 14 = .ok (.goto 4, 3) := by decide +kernel
theorem dX9_cutterOn_17 : decode cX9_cutterOn 17 = .ok (.iconst 0, 1) := by decide +kernel
theorem dX9_cutterOn_18 : decode cX9_cutterOn 18 = .ok (.ireturn, 1) := by decide +kernel
theorem dX9_ticksLeft_0 : decode cX9_ticksLeft 0 = .ok (.aload_n 0, 1) := by decide +kernel
theorem dX9_ticksLeft_1 : decode cX9_ticksLeft 1 = .ok (.iload_n 1, 1) := by decide +kernel
theorem dX9_ticksLeft_2 : decode cX9_ticksLeft 2 = .ok (.invokevirtual 135, 3) := by decide +kernel
theorem dX9_ticksLeft_5 : decode cX9_ticksLeft 5 = .ok (.ifCond .eq 22, 3) := by decide +kernel
theorem dX9_ticksLeft_8 : decode cX9_ticksLeft 8 = .ok (.aload_n 0, 1) := by decide +kernel
theorem dX9_ticksLeft_9 : decode cX9_ticksLeft 9 = .ok (.getfield 59, 3) := by decide +kernel
theorem dX9_ticksLeft_12 : decode cX9_ticksLeft 12 = .ok (.iload_n 1, 1) := by decide +kernel
theorem dX9_ticksLeft_13 : decode cX9_ticksLeft 13 = .ok (.iaload, 1) := by decide +kernel
theorem dX9_ticksLeft_14 : decode cX9_ticksLeft 14 = .ok (.iconst (-1), 1) := by decide +kernel
theorem dX9_ticksLeft_15 : decode cX9_ticksLeft 15 = .ok (.if_icmp .eq 12, 3) := by decide +kernel
theorem dX9_ticksLeft_18 : decode cX9_ticksLeft 18 = .ok (.aload_n 0, 1) := by decide +kernel
theorem dX9_ticksLeft_19 : decode cX9_ticksLeft 19 = .ok (.getfield 62, 3) := by decide +kernel
theorem dX9_ticksLeft_22 : decode cX9_ticksLeft 22 = .ok (.iload_n 1, 1) := by decide +kernel
theorem dX9_ticksLeft_23 : decode cX9_ticksLeft 23 = .ok (.iaload, 1) := by decide +kernel
theorem dX9_ticksLeft_24 : decode cX9_ticksLeft 24 = .ok (.goto 4, 3) := by decide +kernel
theorem dX9_ticksLeft_27 : decode cX9_ticksLeft 27 = .ok (.iconst 0, 1) := by decide +kernel
theorem dX9_ticksLeft_28 : decode cX9_ticksLeft 28 = .ok (.ireturn, 1) := by decide +kernel
theorem dX9_gearsLeft_0 : decode cX9_gearsLeft 0 = .ok (.aload_n 0, 1) := by decide +kernel
theorem dX9_gearsLeft_1 : decode cX9_gearsLeft 1 = .ok (.iload_n 1, 1) := by decide +kernel
theorem dX9_gearsLeft_2 : decode cX9_gearsLeft 2 = .ok (.invokevirtual 138, 3) := by decide +kernel
theorem dX9_gearsLeft_5 : decode cX9_gearsLeft 5 = .ok (.ifCond .eq 11, 3) := by decide +kernel
theorem dX9_gearsLeft_8 : decode cX9_gearsLeft 8 = .ok (.aload_n 0, 1) := by decide +kernel
theorem dX9_gearsLeft_9 : decode cX9_gearsLeft 9 = .ok (.iload_n 1, 1) := by decide +kernel
theorem dX9_gearsLeft_10 : decode cX9_gearsLeft 10 = .ok (.invokevirtual 128, 3) := by decide +kernel
theorem dX9_gearsLeft_13 : decode cX9_gearsLeft 13 = .ok (.goto 4, 3) := by decide +kernel
theorem dX9_gearsLeft_16 : decode cX9_gearsLeft 16 = .ok (.iconst 0, 1) := by decide +kernel
theorem dX9_gearsLeft_17 : decode cX9_gearsLeft 17 = .ok (.ireturn, 1) := by decide +kernel
theorem dX9_doneAt_0 : decode cX9_doneAt 0 = .ok (.aload_n 0, 1) := by decide +kernel
theorem dX9_doneAt_1 : decode cX9_doneAt 1 = .ok (.iload_n 1, 1) := by decide +kernel
theorem dX9_doneAt_2 : decode cX9_doneAt 2 = .ok (.invokevirtual 138, 3) := by decide +kernel
theorem dX9_doneAt_5 : decode cX9_doneAt 5 = .ok (.ifCond .eq 12, 3) := by decide +kernel
theorem dX9_doneAt_8 : decode cX9_doneAt 8 = .ok (.aload_n 0, 1) := by decide +kernel
theorem dX9_doneAt_9 : decode cX9_doneAt 9 = .ok (.getfield 34, 3) := by decide +kernel
theorem dX9_doneAt_12 : decode cX9_doneAt 12 = .ok (.iload_n 1, 1) := by decide +kernel
theorem dX9_doneAt_13 : decode cX9_doneAt 13 = .ok (.iaload, 1) := by decide +kernel
theorem dX9_doneAt_14 : decode cX9_doneAt 14 = .ok (.goto 4, 3) := by decide +kernel
theorem dX9_doneAt_17 : decode cX9_doneAt 17 = .ok (.iconst 0, 1) := by decide +kernel
theorem dX9_doneAt_18 : decode cX9_doneAt 18 = .ok (.ireturn, 1) := by decide +kernel
theorem dX9_test_0 : decode cX9_test 0 = .ok (.aload_n 0, 1) := by decide +kernel
theorem dX9_test_1 : decode cX9_test 1 = .ok (.iload_n 1, 1) := by decide +kernel
theorem dX9_test_2 : decode cX9_test 2 = .ok (.invokevirtual 138, 3) := by decide +kernel
theorem dX9_test_5 : decode cX9_test 5 = .ok (.istore 4, 2) := by decide +kernel
theorem dX9_test_7 : decode cX9_test 7 = .ok (.aload_n 0, 1) := by decide +kernel
theorem dX9_test_8 : decode cX9_test 8 = .ok (.iload 4, 2) := by decide +kernel
theorem dX9_test_10 : decode cX9_test 10 = .ok (.ifCond .ne 7, 3) := by decide +kernel
theorem dX9_test_13 : decode cX9_test 13 = .ok (.iconst 1, 1) := by decide +kernel
theorem dX9_test_14 : decode cX9_test 14 = .ok (.goto 51, 3) := by decide +kernel
theorem dX9_test_17 : decode cX9_test 17 = .ok (.iload_n 2, 1) := by decide +kernel
theorem dX9_test_18 : decode cX9_test 18 = .ok (.iconst 1, 1) := by decide +kernel
theorem dX9_test_19 : decode cX9_test 19 = .ok (.bipush 100, 2) := by decide +kernel
theorem dX9_test_21 : decode cX9_test 21 = .ok (.invokestatic 72, 3) := by decide +kernel
theorem dX9_test_24 : decode cX9_test 24 = .ok (.ifCond .eq 13, 3) := by decide +kernel
theorem dX9_test_27 : decode cX9_test 27 = .ok (.iload_n 3, 1) := by decide +kernel
theorem dX9_test_28 : decode cX9_test 28 = .ok (.iconst 1, 1) := by decide +kernel
theorem dX9_test_29 : decode cX9_test 29 = .ok (.bipush 100, 2) := by decide +kernel
theorem dX9_test_31 : decode cX9_test 31 = .ok (.invokestatic 72, 3) := by decide +kernel
theorem dX9_test_34 : decode cX9_test 34 = .ok (.ifCond .ne 7, 3) := by decide +kernel
theorem dX9_test_37 : decode cX9_test 37 = .ok (.iconst 2, 1) := by decide +kernel
theorem dX9_test_38 : decode cX9_test 38 = .ok (.goto 27, 3) := by decide +kernel
theorem dX9_test_41 : decode cX9_test 41 = .ok (.aload_n 0, 1) := by decide +kernel
theorem dX9_test_42 : decode cX9_test 42 = .ok (.getfield 34, 3) := by decide +kernel
theorem dX9_test_45 : decode cX9_test 45 = .ok (.iload_n 1, 1) := by decide +kernel
theorem dX9_test_46 : decode cX9_test 46 = .ok (.iaload, 1) := by decide +kernel
theorem dX9_test_47 : decode cX9_test 47 = .ok (.iconst (-1), 1) := by decide +kernel
theorem dX9_test_48 : decode cX9_test 48 = .ok (.if_icmp .eq 12, 3) := by decide +kernel
theorem dX9_test_51 : decode cX9_test 51 = .ok (.aload_n 0, 1) := by decide +kernel
theorem dX9_test_52 : decode cX9_test 52 = .ok (.getfield 37, 3) := by decide +kernel
theorem dX9_test_55 : decode cX9_test 55 = .ok (.iload_n 1, 1) := by decide +kernel
theorem dX9_test_56 : decode cX9_test 56 = .ok (.baload, 1) := by decide +kernel
theorem dX9_test_57 : decode cX9_test 57 = .ok (.ifCond .eq 7, 3) := by decide +kernel
theorem dX9_test_60 : decode cX9_test 60 = .ok (.iconst 3, 1) := by decide +kernel
theorem dX9_test_61 : decode cX9_test 61 = .ok (.goto 4, 3) := by decide +kernel
theorem dX9_test_64 : decode cX9_test 64 = .ok (.iconst 0, 1) := by decide +kernel
theorem dX9_test_65 : decode cX9_test 65 = .ok (.putfield 65, 3) := by decide +kernel
theorem dX9_test_68 : decode cX9_test 68 = .ok (.aload_n 0, 1) := by decide +kernel
theorem dX9_test_69 : decode cX9_test 69 = .ok (.getfield 65, 3) := by decide +kernel
theorem dX9_test_72 : decode cX9_test 72 = .ok (.ifCond .le 5, 3) := by decide +kernel
theorem dX9_test_75 : decode cX9_test 75 = .ok (.iconst 0, 1) := by decide +kernel
theorem dX9_test_76 : decode cX9_test 76 = .ok (.ireturn, 1) := by decide +kernel
theorem dX9_test_77 : decode cX9_test 77 = .ok (.aload_n 0, 1) := by decide +kernel
theorem dX9_test_78 : decode cX9_test 78 = .ok (.getfield 31, 3) := by decide +kernel
theorem dX9_test_81 : decode cX9_test 81 = .ok (.iload_n 1, 1) := by decide +kernel
theorem dX9_test_82 : decode cX9_test 82 = .ok (.iaload, 1) := by decide +kernel
theorem dX9_test_83 : decode cX9_test 83 = .ok (.istore 5, 2) := by decide +kernel
theorem dX9_test_85 : decode cX9_test 85 = .ok (.iconst 0, 1) := by decide +kernel
theorem dX9_test_86 : decode cX9_test 86 = .ok (.istore 6, 2) := by decide +kernel
theorem dX9_test_88 : decode cX9_test 88 = .ok (.iload 6, 2) := by decide +kernel
theorem dX9_test_90 : decode cX9_test 90 = .ok (.aload_n 0, 1) := by decide +kernel
theorem dX9_test_91 : decode cX9_test 91 = .ok (.getfield 22, 3) := by decide +kernel
theorem dX9_test_94 : decode cX9_test 94 = .ok (.iload 5, 2) := by decide +kernel
theorem dX9_test_96 : decode cX9_test 96 = .ok (.iaload, 1) := by decide +kernel
theorem dX9_test_97 : decode cX9_test 97 = .ok (.if_icmp .ge 129, 3) := by decide +kernel
theorem dX9_test_100 : decode cX9_test 100 = .ok (.bipush 12, 2) := by decide +kernel
theorem dX9_test_102 : decode cX9_test 102 = .ok (.iload 5, 2) := by decide +kernel
theorem dX9_test_104 : decode cX9_test 104 = .ok (.imul, 1) := by decide +kernel
theorem dX9_test_105 : decode cX9_test 105 = .ok (.iconst 3, 1) := by decide +kernel
theorem dX9_test_106 : decode cX9_test 106 = .ok (.iload 6, 2) := by decide +kernel
theorem dX9_test_108 : decode cX9_test 108 = .ok (.imul, 1) := by decide +kernel
theorem dX9_test_109 : decode cX9_test 109 = .ok (.iadd, 1) := by decide +kernel
theorem dX9_test_110 : decode cX9_test 110 = .ok (.istore 7, 2) := by decide +kernel
theorem dX9_test_112 : decode cX9_test 112 = .ok (.aload_n 0, 1) := by decide +kernel
theorem dX9_test_113 : decode cX9_test 113 = .ok (.getfield 25, 3) := by decide +kernel
theorem dX9_test_116 : decode cX9_test 116 = .ok (.iload 7, 2) := by decide +kernel
theorem dX9_test_118 : decode cX9_test 118 = .ok (.iconst 1, 1) := by decide +kernel
theorem dX9_test_119 : decode cX9_test 119 = .ok (.iadd, 1) := by decide +kernel
theorem dX9_test_120 : decode cX9_test 120 = .ok (.iaload, 1) := by decide +kernel
theorem dX9_test_121 : decode cX9_test 121 = .ok (.aload_n 0, 1) := by decide +kernel
theorem dX9_test_122 : decode cX9_test 122 = .ok (.getfield 25, 3) := by decide +kernel
theorem dX9_test_125 : decode cX9_test 125 = .ok (.iload 7, 2) := by decide +kernel
theorem dX9_test_127 : decode cX9_test 127 = .ok (.iconst 2, 1) := by decide +kernel
theorem dX9_test_128 : decode cX9_test 128 = .ok (.iadd, 1) := by decide +kernel
theorem dX9_test_129 : decode cX9_test 129 = .ok (.iaload, 1) := by decide +kernel
theorem dX9_test_130 : decode cX9_test 130 = .ok (.if_icmp .ge 15, 3) := by decide +kernel
theorem dX9_test_133 : decode cX9_test 133 = .ok (.aload_n 0, 1) := by decide +kernel
theorem dX9_test_134 : decode cX9_test 134 = .ok (.getfield 25, 3) := by decide +kernel
theorem dX9_test_137 : decode cX9_test 137 = .ok (.iload 7, 2) := by decide +kernel
theorem dX9_test_139 : decode cX9_test 139 = .ok (.iconst 1, 1) := by decide +kernel
theorem dX9_test_140 : decode cX9_test 140 = .ok (.iadd, 1) := by decide +kernel
theorem dX9_test_141 : decode cX9_test 141 = .ok (.iaload, 1) := by decide +kernel
theorem dX9_test_142 : decode cX9_test 142 = .ok (.goto 12, 3) := by decide +kernel
theorem dX9_test_145 : decode cX9_test 145 = .ok (.aload_n 0, 1) := by decide +kernel
theorem dX9_test_146 : decode cX9_test 146 = .ok (.getfield 25, 3) := by decide +kernel
theorem dX9_test_149 : decode cX9_test 149 = .ok (.iload 7, 2) := by decide +kernel
theorem dX9_test_151 : decode cX9_test 151 = .ok (.iconst 2, 1) := by decide +kernel
theorem dX9_test_152 : decode cX9_test 152 = .ok (.iadd, 1) := by decide +kernel
theorem dX9_test_153 : decode cX9_test 153 = .ok (.iaload, 1) := by decide +kernel
theorem dX9_test_154 : decode cX9_test 154 = .ok (.istore 8, 2) := by decide +kernel
theorem dX9_test_156 : decode cX9_test 156 = .ok (.aload_n 0, 1) := by decide +kernel
theorem dX9_test_157 : decode cX9_test 157 = .ok (.getfield 41, 3) := by decide +kernel
theorem dX9_test_160 : decode cX9_test 160 = .ok (.iconst 4, 1) := by decide +kernel
theorem dX9_test_161 : decode cX9_test 161 = .ok (.iload_n 1, 1) := by decide +kernel
theorem dX9_test_162 : decode cX9_test 162 = .ok (.imul, 1) := by decide +kernel
theorem dX9_test_163 : decode cX9_test 163 = .ok (.iload 6, 2) := by decide +kernel
theorem dX9_test_165 : decode cX9_test 165 = .ok (.iadd, 1) := by decide +kernel
theorem dX9_test_166 : decode cX9_test 166 = .ok (.dup2, 1) := by decide +kernel
theorem dX9_test_167 : decode cX9_test 167 = .ok (.iaload, 1) := by decide +kernel
theorem dX9_test_168 : decode cX9_test 168 = .ok (.iload_n 2, 1) := by decide +kernel
theorem dX9_test_169 : decode cX9_test 169 = .ok (.iload_n 3, 1) := by decide +kernel
theorem dX9_test_170 : decode cX9_test 170 = .ok (.imul, 1) := by decide +kernel
theorem dX9_test_171 : decode cX9_test 171 = .ok (.aload_n 0, 1) := by decide +kernel
theorem dX9_test_172 : decode cX9_test 172 = .ok (.getfield 25, 3) := by decide +kernel
theorem dX9_test_175 : decode cX9_test 175 = .ok (.iload 7, 2) := by decide +kernel
theorem dX9_test_177 : decode cX9_test 177 = .ok (.iaload, 1) := by decide +kernel
theorem dX9_test_178 : decode cX9_test 178 = .ok (.idiv, 1) := by decide +kernel
theorem dX9_test_179 : decode cX9_test 179 = .ok (.iadd, 1) := by decide +kernel
theorem dX9_test_180 : decode cX9_test 180 = .ok (.iastore, 1) := by decide +kernel
theorem dX9_test_181 : decode cX9_test 181 = .ok (.aload_n 0, 1) := by decide +kernel
theorem dX9_test_182 : decode cX9_test 182 = .ok (.getfield 37, 3) := by decide +kernel
theorem dX9_test_185 : decode cX9_test 185 = .ok (.iload_n 1, 1) := by decide +kernel
theorem dX9_test_186 : decode cX9_test 186 = .ok (.aload_n 0, 1) := by decide +kernel
theorem dX9_test_187 : decode cX9_test 187 = .ok (.getfield 37, 3) := by decide +kernel
theorem dX9_test_190 : decode cX9_test 190 = .ok (.iload_n 1, 1) := by decide +kernel
theorem dX9_test_191 : decode cX9_test 191 = .ok (.baload, 1) := by decide +kernel
theorem dX9_test_192 : decode cX9_test 192 = .ok (.ifCond .ne 22, 3) := by decide +kernel
theorem dX9_test_195 : decode cX9_test 195 = .ok (.aload_n 0, 1) := by decide +kernel
theorem dX9_test_196 : decode cX9_test 196 = .ok (.getfield 41, 3) := by decide +kernel
theorem dX9_test_199 : decode cX9_test 199 = .ok (.iconst 4, 1) := by decide +kernel
theorem dX9_test_200 : decode cX9_test 200 = .ok (.iload_n 1, 1) := by decide +kernel
theorem dX9_test_201 : decode cX9_test 201 = .ok (.imul, 1) := by decide +kernel
theorem dX9_test_202 : decode cX9_test 202 = .ok (.iload 6, 2) := by decide +kernel
theorem dX9_test_204 : decode cX9_test 204 = .ok (.iadd, 1) := by decide +kernel
theorem dX9_test_205 : decode cX9_test 205 = .ok (.iaload, 1) := by decide +kernel
theorem dX9_test_206 : decode cX9_test 206 = .ok (.bipush 10, 2) := by decide +kernel
theorem dX9_test_208 : decode cX9_test 208 = .ok (.iload 8, 2) := by decide +kernel
theorem dX9_test_210 : decode cX9_test 210 = .ok (.imul, 1) := by decide +kernel
theorem dX9_test_211 : decode cX9_test 211 = .ok (.if_icmp .le 7, 3) := by decide +kernel
theorem dX9_test_214 : decode cX9_test 214 = .ok (.iconst 1, 1) := by decide +kernel
theorem dX9_test_215 : decode cX9_test 215 = .ok (.goto 4, 3) := by decide +kernel
theorem dX9_test_218 : decode cX9_test 218 = .ok (.iconst 0, 1) := by decide +kernel
theorem dX9_test_219 : decode cX9_test 219 = .ok (.bastore, 1) := by decide +kernel
theorem dX9_test_220 : decode cX9_test 220 = .ok (.iinc 6 1, 3) := by decide +kernel
theorem dX9_test_223 : decode cX9_test 223 = .ok (.goto (-135), 3) := by decide +kernel
theorem dX9_test_226 : decode cX9_test 226 = .ok (.aload_n 0, 1) := by decide +kernel
theorem dX9_test_227 : decode cX9_test 227 = .ok (.getfield 28, 3) := by decide +kernel
theorem dX9_test_230 : decode cX9_test 230 = .ok (.iload 5, 2) := by decide +kernel
theorem dX9_test_232 : decode cX9_test 232 = .ok (.dup2, 1) := by decide +kernel
theorem dX9_test_233 : decode cX9_test 233 = .ok (.iaload, 1) := by decide +kernel
theorem dX9_test_234 : decode cX9_test 234 = .ok (.aload_n 0, 1) := by decide +kernel
theorem dX9_test_235 : decode cX9_test 235 = .ok (.getfield 37, 3) := by decide +kernel
theorem dX9_test_238 : decode cX9_test 238 = .ok (.iload_n 1, 1) := by decide +kernel
theorem dX9_test_239 : decode cX9_test 239 = .ok (.baload, 1) := by decide +kernel
theorem dX9_test_240 : decode cX9_test 240 = .ok (.ifCond .eq 7, 3) := by decide +kernel
theorem dX9_test_243 : decode cX9_test 243 = .ok (.iconst 1, 1) := by decide +kernel
theorem dX9_test_244 : decode cX9_test 244 = .ok (.goto 4, 3) := by decide +kernel
theorem dX9_test_247 : decode cX9_test 247 = .ok (.iconst 0, 1) := by decide +kernel
theorem dX9_test_248 : decode cX9_test 248 = .ok (.iadd, 1) := by decide +kernel
theorem dX9_test_249 : decode cX9_test 249 = .ok (.iastore, 1) := by decide +kernel
theorem dX9_test_250 : decode cX9_test 250 = .ok (.aload_n 0, 1) := by decide +kernel
theorem dX9_test_251 : decode cX9_test 251 = .ok (.getfield 37, 3) := by decide +kernel
theorem dX9_test_254 : decode cX9_test 254 = .ok (.iload_n 1, 1) := by decide +kernel
theorem dX9_test_255 : decode cX9_test 255 = .ok (.baload, 1) := by decide +kernel
theorem dX9_test_256 : decode cX9_test 256 = .ok (.ireturn, 1) := by decide +kernel
theorem dX9_wear_0 : decode cX9_wear 0 = .ok (.aload_n 0, 1) := by decide +kernel
theorem dX9_wear_1 : decode cX9_wear 1 = .ok (.aload_n 0, 1) := by decide +kernel
theorem dX9_wear_2 : decode cX9_wear 2 = .ok (.iload_n 1, 1) := by decide +kernel
theorem dX9_wear_3 : decode cX9_wear 3 = .ok (.invokevirtual 138, 3) := by decide +kernel
theorem dX9_wear_6 : decode cX9_wear 6 = .ok (.ifCond .eq 28, 3) := by decide +kernel
theorem dX9_wear_9 : decode cX9_wear 9 = .ok (.iload_n 2, 1) := by decide +kernel
theorem dX9_wear_10 : decode cX9_wear 10 = .ok (.iconst 0, 1) := by decide +kernel
theorem dX9_wear_11 : decode cX9_wear 11 = .ok (.aload_n 0, 1) := by decide +kernel
theorem dX9_wear_12 : decode cX9_wear 12 = .ok (.getfield 22, 3) := by decide +kernel
theorem dX9_wear_15 : decode cX9_wear 15 = .ok (.aload_n 0, 1) := by decide +kernel
theorem dX9_wear_16 : decode cX9_wear 16 = .ok (.getfield 31, 3) := by decide +kernel
theorem dX9_wear_19 : decode cX9_wear 19 = .ok (.iload_n 1, 1) := by decide +kernel
theorem dX9_wear_20 : decode cX9_wear 20 = .ok (.iaload, 1) := by decide +kernel
theorem dX9_wear_21 : decode cX9_wear 21 = .ok (.iaload, 1) := by decide +kernel
theorem dX9_wear_22 : decode cX9_wear 22 = .ok (.iconst 1, 1) := by decide +kernel
theorem dX9_wear_23 : decode cX9_wear 23 = .ok (.isub, 1) := by decide +kernel
theorem dX9_wear_24 : decode cX9_wear 24 = .ok (.invokestatic 72, 3) := by decide +kernel
theorem dX9_wear_27 : decode cX9_wear 27 = .ok (.ifCond .eq 7, 3) := by decide +kernel
theorem dX9_wear_30 : decode cX9_wear 30 = .ok (.iconst 0, 1) := by decide +kernel
theorem dX9_wear_31 : decode cX9_wear 31 = .ok (.goto 4, 3) := by decide +kernel
theorem dX9_wear_34 : decode cX9_wear 34 = .ok (.iconst 1, 1) := by decide +kernel
theorem dX9_wear_35 : decode cX9_wear 35 = .ok (.putfield 65, 3) := by decide +kernel
theorem dX9_wear_38 : decode cX9_wear 38 = .ok (.aload_n 0, 1) := by decide +kernel
theorem dX9_wear_39 : decode cX9_wear 39 = .ok (.getfield 65, 3) := by decide +kernel
theorem dX9_wear_42 : decode cX9_wear 42 = .ok (.ifCond .le 7, 3) := by decide +kernel
theorem dX9_wear_45 : decode cX9_wear 45 = .ok (.iconst 0, 1) := by decide +kernel
theorem dX9_wear_46 : decode cX9_wear 46 = .ok (.goto 13, 3) := by decide +kernel
theorem dX9_wear_49 : decode cX9_wear 49 = .ok (.aload_n 0, 1) := by decide +kernel
theorem dX9_wear_50 : decode cX9_wear 50 = .ok (.getfield 41, 3) := by decide +kernel
theorem dX9_wear_53 : decode cX9_wear 53 = .ok (.iconst 4, 1) := by decide +kernel
theorem dX9_wear_54 : decode cX9_wear 54 = .ok (.iload_n 1, 1) := by decide +kernel
theorem dX9_wear_55 : decode cX9_wear 55 = .ok (.imul, 1) := by decide +kernel
theorem dX9_wear_56 : decode cX9_wear 56 = .ok (.iload_n 2, 1) := by decide +kernel
theorem dX9_wear_57 : decode cX9_wear 57 = .ok (.iadd, 1) := by decide +kernel
theorem dX9_wear_58 : decode cX9_wear 58 = .ok (.iaload, 1) := by decide +kernel
theorem dX9_wear_59 : decode cX9_wear 59 = .ok (.ireturn, 1) := by decide +kernel
theorem dX9_claims_0 : decode cX9_claims 0 = .ok (.aload_n 0, 1) := by decide +kernel
theorem dX9_claims_1 : decode cX9_claims 1 = .ok (.iload_n 1, 1) := by decide +kernel
theorem dX9_claims_2 : decode cX9_claims 2 = .ok (.invokevirtual 93, 3) := by decide +kernel
theorem dX9_claims_5 : decode cX9_claims 5 = .ok (.ifCond .eq 12, 3) := by decide +kernel
theorem dX9_claims_8 : decode cX9_claims 8 = .ok (.aload_n 0, 1) := by decide +kernel
theorem dX9_claims_9 : decode cX9_claims 9 = .ok (.getfield 28, 3) := by decide +kernel
theorem dX9_claims_12 : decode cX9_claims 12 = .ok (.iload_n 1, 1) := by decide +kernel
theorem dX9_claims_13 : decode cX9_claims 13 = .ok (.iaload, 1) := by decide +kernel
theorem dX9_claims_14 : decode cX9_claims 14 = .ok (.goto 4, 3) := by decide +kernel
theorem dX9_claims_17 : decode cX9_claims 17 = .ok (.iconst 0, 1) := by decide +kernel
theorem dX9_claims_18 : decode cX9_claims 18 = .ok (.ireturn, 1) := by decide +kernel
theorem dX9_lacks_0 : decode cX9_lacks 0 = .ok (.aload_n 0, 1) := by decide +kernel
theorem dX9_lacks_1 : decode cX9_lacks 1 = .ok (.iload_n 1, 1) := by decide +kernel
theorem dX9_lacks_2 : decode cX9_lacks 2 = .ok (.iload_n 2, 1) := by decide +kernel
theorem dX9_lacks_3 : decode cX9_lacks 3 = .ok (.invokevirtual 82, 3) := by decide +kernel
theorem dX9_lacks_6 : decode cX9_lacks 6 = .ok (.iconst (-1), 1) := by decide +kernel
theorem dX9_lacks_7 : decode cX9_lacks 7 = .ok (.if_icmp .ne 7, 3) := by decide +kernel
theorem dX9_lacks_10 : decode cX9_lacks 10 = .ok (.iconst 1, 1) := by decide +kernel
theorem dX9_lacks_11 : decode cX9_lacks 11 = .ok (.goto 4, 3) := by decide +kernel
theorem dX9_lacks_14 : decode cX9_lacks 14 = .ok (.iconst 0, 1) := by decide +kernel
theorem dX9_lacks_15 : decode cX9_lacks 15 = .ok (.ireturn, 1) := by decide +kernel
theorem dX9_news_0 : decode cX9_news 0 = .ok (.aload_n 0, 1) := by decide +kernel
theorem dX9_news_1 : decode cX9_news 1 = .ok (.iload_n 1, 1) := by decide +kernel
theorem dX9_news_2 : decode cX9_news 2 = .ok (.iload_n 2, 1) := by decide +kernel
theorem dX9_news_3 : decode cX9_news 3 = .ok (.invokevirtual 141, 3) := by decide +kernel
theorem dX9_news_6 : decode cX9_news 6 = .ok (.istore 6, 2) := by decide +kernel
theorem dX9_news_8 : decode cX9_news 8 = .ok (.iload 6, 2) := by decide +kernel
theorem dX9_news_10 : decode cX9_news 10 = .ok (.iload_n 3, 1) := by decide +kernel
theorem dX9_news_11 : decode cX9_news 11 = .ok (.iload_n 2, 1) := by decide +kernel
theorem dX9_news_12 : decode cX9_news 12 = .ok (.if_icmp .ne 7, 3) := by decide +kernel
theorem dX9_news_15 : decode cX9_news 15 = .ok (.iconst 0, 1) := by decide +kernel
theorem dX9_news_16 : decode cX9_news 16 = .ok (.goto 9, 3) := by decide +kernel
theorem dX9_news_19 : decode cX9_news 19 = .ok (.aload_n 0, 1) := by decide +kernel
theorem dX9_news_20 : decode cX9_news 20 = .ok (.iload_n 1, 1) := by decide +kernel
theorem dX9_news_21 : decode cX9_news 21 = .ok (.iload_n 3, 1) := by decide +kernel
theorem dX9_news_22 : decode cX9_news 22 = .ok (.invokevirtual 141, 3) := by decide +kernel
theorem dX9_news_25 : decode cX9_news 25 = .ok (.iadd, 1) := by decide +kernel
theorem dX9_news_26 : decode cX9_news 26 = .ok (.istore 6, 2) := by decide +kernel
theorem dX9_news_28 : decode cX9_news 28 = .ok (.iload 6, 2) := by decide +kernel
theorem dX9_news_30 : decode cX9_news 30 = .ok (.iload 4, 2) := by decide +kernel
theorem dX9_news_32 : decode cX9_news 32 = .ok (.iload_n 2, 1) := by decide +kernel
theorem dX9_news_33 : decode cX9_news 33 = .ok (.if_icmp .eq 9, 3) := by decide +kernel
theorem dX9_news_36 : decode cX9_news 36 = .ok (.iload 4, 2) := by decide +kernel
theorem dX9_news_38 : decode cX9_news 38 = .ok (.iload_n 3, 1) := by decide +kernel
theorem dX9_news_39 : decode cX9_news 39 = .ok (.if_icmp .ne 7, 3) := by decide +kernel
theorem dX9_news_42 : decode cX9_news 42 = .ok (.iconst 0, 1) := by decide +kernel
theorem dX9_news_43 : decode cX9_news 43 = .ok (.goto 10, 3) := by decide +kernel
theorem dX9_news_46 : decode cX9_news 46 = .ok (.aload_n 0, 1) := by decide +kernel
theorem dX9_news_47 : decode cX9_news 47 = .ok (.iload_n 1, 1) := by decide +kernel
theorem dX9_news_48 : decode cX9_news 48 = .ok (.iload 4, 2) := by decide +kernel
theorem dX9_news_50 : decode cX9_news 50 = .ok (.invokevirtual 141, 3) := by decide +kernel
theorem dX9_news_53 : decode cX9_news 53 = .ok (.iadd, 1) := by decide +kernel
theorem dX9_news_54 : decode cX9_news 54 = .ok (.istore 6, 2) := by decide +kernel
theorem dX9_news_56 : decode cX9_news 56 = .ok (.iload 6, 2) := by decide +kernel
theorem dX9_news_58 : decode cX9_news 58 = .ok (.iload 5, 2) := by decide +kernel
theorem dX9_news_60 : decode cX9_news 60 = .ok (.iload_n 2, 1) := by decide +kernel
theorem dX9_news_61 : decode cX9_news 61 = .ok (.if_icmp .eq 16, 3) := by decide +kernel
theorem dX9_news_64 : decode cX9_news 64 = .ok (.iload 5, 2) := by decide +kernel
theorem dX9_news_66 : decode cX9_news 66 = .ok (.iload_n 3, 1) := by decide +kernel
theorem dX9_news_67 : decode cX9_news 67 = .ok (.if_icmp .eq 10, 3) := by decide +kernel
theorem dX9_news_70 : decode cX9_news 70 = .ok (.iload 5, 2) := by decide +kernel
theorem dX9_news_72 : decode cX9_news 72 = .ok (.iload 4, 2) := by decide +kernel
theorem dX9_news_74 : decode cX9_news 74 = .ok (.if_icmp .ne 7, 3) := by decide +kernel
theorem dX9_news_77 : decode cX9_news 77 = .ok (.iconst 0, 1) := by decide +kernel
theorem dX9_news_78 : decode cX9_news 78 = .ok (.goto 10, 3) := by decide +kernel
theorem dX9_news_81 : decode cX9_news 81 = .ok (.aload_n 0, 1) := by decide +kernel
theorem dX9_news_82 : decode cX9_news 82 = .ok (.iload_n 1, 1) := by decide +kernel
theorem dX9_news_83 : decode cX9_news 83 = .ok (.iload 5, 2) := by decide +kernel
theorem dX9_news_85 : decode cX9_news 85 = .ok (.invokevirtual 141, 3) := by decide +kernel
theorem dX9_news_88 : decode cX9_news 88 = .ok (.iadd, 1) := by decide +kernel
theorem dX9_news_89 : decode cX9_news 89 = .ok (.ireturn, 1) := by decide +kernel
theorem dX9_leastNew_0 : decode cX9_leastNew 0 = .ok (.aload_n 0, 1) := by decide +kernel
theorem dX9_leastNew_1 : decode cX9_leastNew 1 = .ok (.iload_n 1, 1) := by decide +kernel
theorem dX9_leastNew_2 : decode cX9_leastNew 2 = .ok (.iconst 1, 1) := by decide +kernel
theorem dX9_leastNew_3 : decode cX9_leastNew 3 = .ok (.iconst 4, 1) := by decide +kernel
theorem dX9_leastNew_4 : decode cX9_leastNew 4 = .ok (.invokestatic 72, 3) := by decide +kernel
theorem dX9_leastNew_7 : decode cX9_leastNew 7 = .ok (.ifCond .eq 29, 3) := by decide +kernel
theorem dX9_leastNew_10 : decode cX9_leastNew 10 = .ok (.iload_n 2, 1) := by decide +kernel
theorem dX9_leastNew_11 : decode cX9_leastNew 11 = .ok (.iconst 1, 1) := by decide +kernel
theorem dX9_leastNew_12 : decode cX9_leastNew 12 = .ok (.sipush 400, 3) := by decide +kernel
theorem dX9_leastNew_15 : decode cX9_leastNew 15 = .ok (.invokestatic 72, 3) := by decide +kernel
theorem dX9_leastNew_18 : decode cX9_leastNew 18 = .ok (.ifCond .eq 18, 3) := by decide +kernel
theorem dX9_leastNew_21 : decode cX9_leastNew 21 = .ok (.iload_n 3, 1) := by decide +kernel
theorem dX9_leastNew_22 : decode cX9_leastNew 22 = .ok (.iconst 1, 1) := by decide +kernel
theorem dX9_leastNew_23 : decode cX9_leastNew 23 = .ok (.sipush 400, 3) := by decide +kernel
theorem dX9_leastNew_26 : decode cX9_leastNew 26 = .ok (.invokestatic 72, 3) := by decide +kernel
theorem dX9_leastNew_29 : decode cX9_leastNew 29 = .ok (.ifCond .eq 7, 3) := by decide +kernel
theorem dX9_leastNew_32 : decode cX9_leastNew 32 = .ok (.iconst 0, 1) := by decide +kernel
theorem dX9_leastNew_33 : decode cX9_leastNew 33 = .ok (.goto 4, 3) := by decide +kernel
theorem dX9_leastNew_36 : decode cX9_leastNew 36 = .ok (.iconst 1, 1) := by decide +kernel
theorem dX9_leastNew_37 : decode cX9_leastNew 37 = .ok (.putfield 65, 3) := by decide +kernel
theorem dX9_leastNew_40 : decode cX9_leastNew 40 = .ok (.iconst (-1), 1) := by decide +kernel
theorem dX9_leastNew_41 : decode cX9_leastNew 41 = .ok (.istore 4, 2) := by decide +kernel
theorem dX9_leastNew_43 : decode cX9_leastNew 43 = .ok (.iconst 0, 1) := by decide +kernel
theorem dX9_leastNew_44 : decode cX9_leastNew 44 = .ok (.istore 5, 2) := by decide +kernel
theorem dX9_leastNew_46 : decode cX9_leastNew 46 = .ok (.iload 5, 2) := by decide +kernel
theorem dX9_leastNew_48 : decode cX9_leastNew 48 = .ok (.sipush 28561, 3) := by decide +kernel
theorem dX9_leastNew_51 : decode cX9_leastNew 51 = .ok (.if_icmp .ge 118, 3) := by decide +kernel
theorem dX9_leastNew_54 : decode cX9_leastNew 54 = .ok (.aload_n 0, 1) := by decide +kernel
theorem dX9_leastNew_55 : decode cX9_leastNew 55 = .ok (.getfield 65, 3) := by decide +kernel
theorem dX9_leastNew_58 : decode cX9_leastNew 58 = .ok (.ifCond .ne 111, 3) := by decide +kernel
theorem dX9_leastNew_61 : decode cX9_leastNew 61 = .ok (.bipush 8, 2) := by decide +kernel
theorem dX9_leastNew_63 : decode cX9_leastNew 63 = .ok (.iload 5, 2) := by decide +kernel
theorem dX9_leastNew_65 : decode cX9_leastNew 65 = .ok (.bipush 13, 2) := by decide +kernel
theorem dX9_leastNew_67 : decode cX9_leastNew 67 = .ok (.irem, 1) := by decide +kernel
theorem dX9_leastNew_68 : decode cX9_leastNew 68 = .ok (.iadd, 1) := by decide +kernel
theorem dX9_leastNew_69 : decode cX9_leastNew 69 = .ok (.istore 6, 2) := by decide +kernel
theorem dX9_leastNew_71 : decode cX9_leastNew 71 = .ok (.bipush 8, 2) := by decide +kernel
theorem dX9_leastNew_73 : decode cX9_leastNew 73 = .ok (.iload 5, 2) := by decide +kernel
theorem dX9_leastNew_75 : decode cX9_leastNew 75 = .ok (.bipush 13, 2) := by decide +kernel
theorem dX9_leastNew_77 : decode cX9_leastNew 77 = .ok (.idiv, 1) := by decide +kernel
theorem dX9_leastNew_78 : decode cX9_leastNew 78 = .ok (.bipush 13, 2) := by decide +kernel
theorem dX9_leastNew_80 : decode cX9_leastNew 80 = .ok (.irem, 1) := by decide +kernel
theorem dX9_leastNew_81 : decode cX9_leastNew 81 = .ok (.iadd, 1) := by decide +kernel
theorem dX9_leastNew_82 : decode cX9_leastNew 82 = .ok (.istore 7, 2) := by decide +kernel
theorem dX9_leastNew_84 : decode cX9_leastNew 84 = .ok (.bipush 8, 2) := by decide +kernel
theorem dX9_leastNew_86 : decode cX9_leastNew 86 = .ok (.iload 5, 2) := by decide +kernel
theorem dX9_leastNew_88 : decode cX9_leastNew 88 = .ok (.sipush 169, 3) := by decide +kernel
theorem dX9_leastNew_91 : decode cX9_leastNew 91 = .ok (.idiv, 1) := by decide +kernel
theorem dX9_leastNew_92 : decode cX9_leastNew 92 = .ok (.bipush 13, 2) := by decide +kernel
theorem dX9_leastNew_94 : decode cX9_leastNew 94 = .ok (.irem, 1) := by decide +kernel
theorem dX9_leastNew_95 : decode cX9_leastNew 95 = .ok (.iadd, 1) := by decide +kernel
theorem dX9_leastNew_96 : decode cX9_leastNew 96 = .ok (.istore 8, 2) := by decide +kernel
theorem dX9_leastNew_98 : decode cX9_leastNew 98 = .ok (.bipush 8, 2) := by decide +kernel
theorem dX9_leastNew_100 : decode cX9_leastNew 100 = .ok (.iload 5, 2) := by decide +kernel
theorem dX9_leastNew_102 : decode cX9_leastNew 102 = .ok (.sipush 2197, 3) := by decide +kernel
theorem dX9_leastNew_105 : decode cX9_leastNew 105 = .ok (.idiv, 1) := by decide +kernel
theorem dX9_leastNew_106 : decode cX9_leastNew 106 = .ok (.iadd, 1) := by decide +kernel
theorem dX9_leastNew_107 : decode cX9_leastNew 107 = .ok (.istore 9, 2) := by decide +kernel
theorem dX9_leastNew_109 : decode cX9_leastNew 109 = .ok (.iload 7, 2) := by decide +kernel
theorem dX9_leastNew_111 : decode cX9_leastNew 111 = .ok (.iload 9, 2) := by decide +kernel
theorem dX9_leastNew_113 : decode cX9_leastNew 113 = .ok (.imul, 1) := by decide +kernel
theorem dX9_leastNew_114 : decode cX9_leastNew 114 = .ok (.iload_n 3, 1) := by decide +kernel
theorem dX9_leastNew_115 : decode cX9_leastNew 115 = .ok (.imul, 1) := by decide +kernel
theorem dX9_leastNew_116 : decode cX9_leastNew 116 = .ok (.iload 6, 2) := by decide +kernel
theorem dX9_leastNew_118 : decode cX9_leastNew 118 = .ok (.iload 8, 2) := by decide +kernel
theorem dX9_leastNew_120 : decode cX9_leastNew 120 = .ok (.imul, 1) := by decide +kernel
theorem dX9_leastNew_121 : decode cX9_leastNew 121 = .ok (.iload_n 2, 1) := by decide +kernel
theorem dX9_leastNew_122 : decode cX9_leastNew 122 = .ok (.imul, 1) := by decide +kernel
theorem dX9_leastNew_123 : decode cX9_leastNew 123 = .ok (.if_icmp .ne 40, 3) := by decide +kernel
theorem dX9_leastNew_126 : decode cX9_leastNew 126 = .ok (.aload_n 0, 1) := by decide +kernel
theorem dX9_leastNew_127 : decode cX9_leastNew 127 = .ok (.iload_n 1, 1) := by decide +kernel
theorem dX9_leastNew_128 : decode cX9_leastNew 128 = .ok (.iload 6, 2) := by decide +kernel
theorem dX9_leastNew_130 : decode cX9_leastNew 130 = .ok (.iload 7, 2) := by decide +kernel
theorem dX9_leastNew_132 : decode cX9_leastNew 132 = .ok (.iload 8, 2) := by decide +kernel
theorem dX9_leastNew_134 : decode cX9_leastNew 134 = .ok (.iload 9, 2) := by decide +kernel
theorem dX9_leastNew_136 : decode cX9_leastNew 136 = .ok (.invokevirtual 144, 3) := by decide +kernel
theorem dX9_leastNew_139 : decode cX9_leastNew 139 = .ok (.istore 10, 2) := by decide +kernel
theorem dX9_leastNew_141 : decode cX9_leastNew 141 = .ok (.iload 4, 2) := by decide +kernel
theorem dX9_leastNew_143 : decode cX9_leastNew 143 = .ok (.iconst (-1), 1) := by decide +kernel
theorem dX9_leastNew_144 : decode cX9_leastNew 144 = .ok (.if_icmp .eq 10, 3) := by decide +kernel
theorem dX9_leastNew_147 : decode cX9_leastNew 147 = .ok (.iload 10, 2) := by decide +kernel
theorem dX9_leastNew_149 : decode cX9_leastNew 149 = .ok (.iload 4, 2) := by decide +kernel
theorem dX9_leastNew_151 : decode cX9_leastNew 151 = .ok (.if_icmp .ge 8, 3) := by decide +kernel
theorem dX9_leastNew_154 : decode cX9_leastNew 154 = .ok (.iload 10, 2) := by decide +kernel
theorem dX9_leastNew_156 : decode cX9_leastNew 156 = .ok (.goto 5, 3) := by decide +kernel
theorem dX9_leastNew_159 : decode cX9_leastNew 159 = .ok (.iload 4, 2) := by decide +kernel
theorem dX9_leastNew_161 : decode cX9_leastNew 161 = .ok (.istore 4, 2) := by decide +kernel
theorem dX9_leastNew_163 : decode cX9_leastNew 163 = .ok (.iinc 5 1, 3) := by decide +kernel
theorem dX9_leastNew_166 : decode cX9_leastNew 166 = .ok (.goto (-120), 3) := by decide +kernel
theorem dX9_leastNew_169 : decode cX9_leastNew 169 = .ok (.aload_n 0, 1) := by decide +kernel
theorem dX9_leastNew_170 : decode cX9_leastNew 170 = .ok (.getfield 65, 3) := by decide +kernel
theorem dX9_leastNew_173 : decode cX9_leastNew 173 = .ok (.ifCond .le 7, 3) := by decide +kernel
theorem dX9_leastNew_176 : decode cX9_leastNew 176 = .ok (.iconst 0, 1) := by decide +kernel
theorem dX9_leastNew_177 : decode cX9_leastNew 177 = .ok (.goto 5, 3) := by decide +kernel
theorem dX9_leastNew_180 : decode cX9_leastNew 180 = .ok (.iload 4, 2) := by decide +kernel
theorem dX9_leastNew_182 : decode cX9_leastNew 182 = .ok (.ireturn, 1) := by decide +kernel
theorem dJ6_bitCount_0f7a4_0 : decode cJ6_bitCount_0f7a4 0 = .ok (.iload_n 0, 1) := by decide +kernel
theorem dJ6_bitCount_0f7a4_1 : decode cJ6_bitCount_0f7a4 1 = .ok (.iload_n 0, 1) := by decide +kernel
theorem dJ6_bitCount_0f7a4_2 : decode cJ6_bitCount_0f7a4 2 = .ok (.iconst 1, 1) := by decide +kernel
theorem dJ6_bitCount_0f7a4_3 : decode cJ6_bitCount_0f7a4 3 = .ok (.iushr, 1) := by decide +kernel
theorem dJ6_bitCount_0f7a4_4 : decode cJ6_bitCount_0f7a4 4 = .ok (.ldc_w 265, 3) := by decide +kernel
theorem dJ6_bitCount_0f7a4_7 : decode cJ6_bitCount_0f7a4 7 = .ok (.iand, 1) := by decide +kernel
theorem dJ6_bitCount_0f7a4_8 : decode cJ6_bitCount_0f7a4 8 = .ok (.isub, 1) := by decide +kernel
theorem dJ6_bitCount_0f7a4_9 : decode cJ6_bitCount_0f7a4 9 = .ok (.istore_n 0, 1) := by decide +kernel
theorem dJ6_bitCount_0f7a4_10 : decode cJ6_bitCount_0f7a4 10 = .ok (.iload_n 0, 1) := by decide +kernel
theorem dJ6_bitCount_0f7a4_11 : decode cJ6_bitCount_0f7a4 11 = .ok (.ldc_w 266, 3) := by decide +kernel
theorem dJ6_bitCount_0f7a4_14 : decode cJ6_bitCount_0f7a4 14 = .ok (.iand, 1) := by decide +kernel
theorem dJ6_bitCount_0f7a4_15 : decode cJ6_bitCount_0f7a4 15 = .ok (.iload_n 0, 1) := by decide +kernel
theorem dJ6_bitCount_0f7a4_16 : decode cJ6_bitCount_0f7a4 16 = .ok (.iconst 2, 1) := by decide +kernel
theorem dJ6_bitCount_0f7a4_17 : decode cJ6_bitCount_0f7a4 17 = .ok (.iushr, 1) := by decide +kernel
theorem dJ6_bitCount_0f7a4_18 : decode cJ6_bitCount_0f7a4 18 = .ok (.ldc_w 266, 3) := by decide +kernel
theorem dJ6_bitCount_0f7a4_21 : decode cJ6_bitCount_0f7a4 21 = .ok (.iand, 1) := by decide +kernel
theorem dJ6_bitCount_0f7a4_22 : decode cJ6_bitCount_0f7a4 22 = .ok (.iadd, 1) := by decide +kernel
theorem dJ6_bitCount_0f7a4_23 : decode cJ6_bitCount_0f7a4 23 = .ok (.istore_n 0, 1) := by decide +kernel
theorem dJ6_bitCount_0f7a4_24 : decode cJ6_bitCount_0f7a4 24 = .ok (.iload_n 0, 1) := by decide +kernel
theorem dJ6_bitCount_0f7a4_25 : decode cJ6_bitCount_0f7a4 25 = .ok (.iload_n 0, 1) := by decide +kernel
theorem dJ6_bitCount_0f7a4_26 : decode cJ6_bitCount_0f7a4 26 = .ok (.iconst 4, 1) := by decide +kernel
theorem dJ6_bitCount_0f7a4_27 : decode cJ6_bitCount_0f7a4 27 = .ok (.iushr, 1) := by decide +kernel
theorem dJ6_bitCount_0f7a4_28 : decode cJ6_bitCount_0f7a4 28 = .ok (.iadd, 1) := by decide +kernel
theorem dJ6_bitCount_0f7a4_29 : decode cJ6_bitCount_0f7a4 29 = .ok (.ldc_w 267, 3) := by decide +kernel
theorem dJ6_bitCount_0f7a4_32 : decode cJ6_bitCount_0f7a4 32 = .ok (.iand, 1) := by decide +kernel
theorem dJ6_bitCount_0f7a4_33 : decode cJ6_bitCount_0f7a4 33 = .ok (.istore_n 0, 1) := by decide +kernel
theorem dJ6_bitCount_0f7a4_34 : decode cJ6_bitCount_0f7a4 34 = .ok (.iload_n 0, 1) := by decide +kernel
theorem dJ6_bitCount_0f7a4_35 : decode cJ6_bitCount_0f7a4 35 = .ok (.iload_n 0, 1) := by decide +kernel
theorem dJ6_bitCount_0f7a4_36 : decode cJ6_bitCount_0f7a4 36 = .ok (.bipush 8, 2) := by decide +kernel
theorem dJ6_bitCount_0f7a4_38 : decode cJ6_bitCount_0f7a4 38 = .ok (.iushr, 1) := by decide +kernel
theorem dJ6_bitCount_0f7a4_39 : decode cJ6_bitCount_0f7a4 39 = .ok (.iadd, 1) := by decide +kernel
theorem dJ6_bitCount_0f7a4_40 : decode cJ6_bitCount_0f7a4 40 = .ok (.istore_n 0, 1) := by decide +kernel
theorem dJ6_bitCount_0f7a4_41 : decode cJ6_bitCount_0f7a4 41 = .ok (.iload_n 0, 1) := by decide +kernel
theorem dJ6_bitCount_0f7a4_42 : decode cJ6_bitCount_0f7a4 42 = .ok (.iload_n 0, 1) := by decide +kernel
theorem dJ6_bitCount_0f7a4_43 : decode cJ6_bitCount_0f7a4 43 = .ok (.bipush 16, 2) := by decide +kernel
theorem dJ6_bitCount_0f7a4_45 : decode cJ6_bitCount_0f7a4 45 = .ok (.iushr, 1) := by decide +kernel
theorem dJ6_bitCount_0f7a4_46 : decode cJ6_bitCount_0f7a4 46 = .ok (.iadd, 1) := by decide +kernel
theorem dJ6_bitCount_0f7a4_47 : decode cJ6_bitCount_0f7a4 47 = .ok (.istore_n 0, 1) := by decide +kernel
theorem dJ6_bitCount_0f7a4_48 : decode cJ6_bitCount_0f7a4 48 = .ok (.iload_n 0, 1) := by decide +kernel
theorem dJ6_bitCount_0f7a4_49 : decode cJ6_bitCount_0f7a4 49 = .ok (.bipush 63, 2) := by decide +kernel
theorem dJ6_bitCount_0f7a4_51 : decode cJ6_bitCount_0f7a4 51 = .ok (.iand, 1) := by decide +kernel
theorem dJ6_bitCount_0f7a4_52 : decode cJ6_bitCount_0f7a4 52 = .ok (.ireturn, 1) := by decide +kernel
theorem dJ9_max_7cf53_0 : decode cJ9_max_7cf53 0 = .ok (.iload_n 0, 1) := by decide +kernel
theorem dJ9_max_7cf53_1 : decode cJ9_max_7cf53 1 = .ok (.iload_n 1, 1) := by decide +kernel
theorem dJ9_max_7cf53_2 : decode cJ9_max_7cf53 2 = .ok (.if_icmp .lt 7, 3) := by decide +kernel
theorem dJ9_max_7cf53_5 : decode cJ9_max_7cf53 5 = .ok (.iload_n 0, 1) := by decide +kernel
theorem dJ9_max_7cf53_6 : decode cJ9_max_7cf53 6 = .ok (.goto 4, 3) := by decide +kernel
theorem dJ9_max_7cf53_9 : decode cJ9_max_7cf53 9 = .ok (.iload_n 1, 1) := by decide +kernel
theorem dJ9_max_7cf53_10 : decode cJ9_max_7cf53 10 = .ok (.ireturn, 1) := by decide +kernel
theorem dJ9_min_7cf53_0 : decode cJ9_min_7cf53 0 = .ok (.iload_n 0, 1) := by decide +kernel
theorem dJ9_min_7cf53_1 : decode cJ9_min_7cf53 1 = .ok (.iload_n 1, 1) := by decide +kernel
theorem dJ9_min_7cf53_2 : decode cJ9_min_7cf53 2 = .ok (.if_icmp .gt 7, 3) := by decide +kernel
theorem dJ9_min_7cf53_5 : decode cJ9_min_7cf53 5 = .ok (.iload_n 0, 1) := by decide +kernel
theorem dJ9_min_7cf53_6 : decode cJ9_min_7cf53 6 = .ok (.goto 4, 3) := by decide +kernel
theorem dJ9_min_7cf53_9 : decode cJ9_min_7cf53 9 = .ok (.iload_n 1, 1) := by decide +kernel
theorem dJ9_min_7cf53_10 : decode cJ9_min_7cf53 10 = .ok (.ireturn, 1) := by decide +kernel
theorem dJxa1e45_init_da8c8_0 : decode cJxa1e45_init_da8c8 0 = .ok (.aload_n 0, 1) := by decide +kernel
theorem dJxa1e45_init_da8c8_1 : decode cJxa1e45_init_da8c8 1 = .ok (.invokespecial 1, 3) := by decide +kernel
theorem dJxa1e45_init_da8c8_4 : decode cJxa1e45_init_da8c8 4 = .ok (.return_, 1) := by decide +kernel
theorem dJxc12de_init_da8c8_0 : decode cJxc12de_init_da8c8 0 = .ok (.aload_n 0, 1) := by decide +kernel
theorem dJxc12de_init_da8c8_1 : decode cJxc12de_init_da8c8 1 = .ok (.invokespecial 1, 3) := by decide +kernel
theorem dJxc12de_init_da8c8_4 : decode cJxc12de_init_da8c8 4 = .ok (.aload_n 0, 1) := by decide +kernel
theorem dJxc12de_init_da8c8_5 : decode cJxc12de_init_da8c8 5 = .ok (.iconst 0, 1) := by decide +kernel
theorem dJxc12de_init_da8c8_6 : decode cJxc12de_init_da8c8 6 = .ok (.putfield 7, 3) := by decide +kernel
theorem dJxc12de_init_da8c8_9 : decode cJxc12de_init_da8c8 9 = .ok (.return_, 1) := by decide +kernel
theorem dJx4a65c_init_da8c8_0 : decode cJx4a65c_init_da8c8 0 = .ok (.aload_n 0, 1) := by decide +kernel
theorem dJx4a65c_init_da8c8_1 : decode cJx4a65c_init_da8c8 1 = .ok (.invokespecial 1, 3) := by decide +kernel
theorem dJx4a65c_init_da8c8_4 : decode cJx4a65c_init_da8c8 4 = .ok (.aload_n 0, 1) := by decide +kernel
theorem dJx4a65c_init_da8c8_5 : decode cJx4a65c_init_da8c8 5 = .ok (.getstatic 39, 3) := by decide +kernel
theorem dJx4a65c_init_da8c8_8 : decode cJx4a65c_init_da8c8 8 = .ok (.putfield 9, 3) := by decide +kernel
theorem dJx4a65c_init_da8c8_11 : decode cJx4a65c_init_da8c8 11 = .ok (.return_, 1) := by decide +kernel
theorem dJx4a65c_grow_92f84_0 : decode cJx4a65c_grow_92f84 0 = .ok (.aload_n 0, 1) := by decide +kernel
theorem dJx4a65c_grow_92f84_1 : decode cJx4a65c_grow_92f84 1 = .ok (.getfield 9, 3) := by decide +kernel
theorem dJx4a65c_grow_92f84_4 : decode cJx4a65c_grow_92f84 4 = .ok (.arraylength, 1) := by decide +kernel
theorem dJx4a65c_grow_92f84_5 : decode cJx4a65c_grow_92f84 5 = .ok (.istore_n 2, 1) := by decide +kernel
theorem dJx4a65c_grow_92f84_6 : decode cJx4a65c_grow_92f84 6 = .ok (.iload_n 2, 1) := by decide +kernel
theorem dJx4a65c_grow_92f84_7 : decode cJx4a65c_grow_92f84 7 = .ok (.ifCond .gt 13, 3) := by decide +kernel
theorem dJx4a65c_grow_92f84_10 : decode cJx4a65c_grow_92f84 10 = .ok (.aload_n 0, 1) := by decide +kernel
theorem dJx4a65c_grow_92f84_11 : decode cJx4a65c_grow_92f84 11 = .ok (.getfield 9, 3) := by decide +kernel
theorem dJx4a65c_grow_92f84_14 : decode cJx4a65c_grow_92f84 14 = .ok (.getstatic 39, 3) := by decide +kernel
theorem dJx4a65c_grow_92f84_17 : decode cJx4a65c_grow_92f84 17 = .ok (.if_acmp .eq 28, 3) := by decide +kernel
theorem dJx4a65c_grow_92f84_20 : decode cJx4a65c_grow_92f84 20 = .ok (.iload_n 2, 1) := by decide +kernel
theorem dJx4a65c_grow_92f84_21 : decode cJx4a65c_grow_92f84 21 = .ok (.iload_n 1, 1) := by decide +kernel
theorem dJx4a65c_grow_92f84_22 : decode cJx4a65c_grow_92f84 22 = .ok (.iload_n 2, 1) := by decide +kernel
theorem dJx4a65c_grow_92f84_23 : decode cJx4a65c_grow_92f84 23 = .ok (.isub, 1) := by decide +kernel
theorem dJx4a65c_grow_92f84_24 : decode cJx4a65c_grow_92f84 24 = .ok (.iload_n 2, 1) := by decide +kernel
theorem dJx4a65c_grow_92f84_25 : decode cJx4a65c_grow_92f84 25 = .ok (.iconst 1, 1) := by decide +kernel
theorem dJx4a65c_grow_92f84_26 : decode cJx4a65c_grow_92f84 26 = .ok (.ishr, 1) := by decide +kernel
theorem dJx4a65c_grow_92f84_27 : decode cJx4a65c_grow_92f84 27 = .ok (.invokestatic 73, 3) := by decide +kernel
theorem dJx4a65c_grow_92f84_30 : decode cJx4a65c_grow_92f84 30 = .ok (.istore_n 3, 1) := by decide +kernel
theorem dJx4a65c_grow_92f84_31 : decode cJx4a65c_grow_92f84 31 = .ok (.aload_n 0, 1) := by decide +kernel
theorem dJx4a65c_grow_92f84_32 : decode cJx4a65c_grow_92f84 32 = .ok (.aload_n 0, 1) := by decide +kernel
theorem dJx4a65c_grow_92f84_33 : decode cJx4a65c_grow_92f84 33 = .ok (.getfield 9, 3) := by decide +kernel
theorem dJx4a65c_grow_92f84_36 : decode cJx4a65c_grow_92f84 36 = .ok (.iload_n 3, 1) := by decide +kernel
theorem dJx4a65c_grow_92f84_37 : decode cJx4a65c_grow_92f84 37 = .ok (.invokestatic 66, 3) := by decide +kernel
theorem dJx4a65c_grow_92f84_40 : decode cJx4a65c_grow_92f84 40 = .ok (.dup_x1, 1) := by decide +kernel
theorem dJx4a65c_grow_92f84_41 : decode cJx4a65c_grow_92f84 41 = .ok (.putfield 9, 3) := by decide +kernel
theorem dJx4a65c_grow_92f84_44 : decode cJx4a65c_grow_92f84 44 = .ok (.areturn, 1) := by decide +kernel
theorem dJx4a65c_grow_92f84_45 : decode cJx4a65c_grow_92f84 45 = .ok (.aload_n 0, 1) := by decide +kernel
theorem dJx4a65c_grow_92f84_46 : decode cJx4a65c_grow_92f84 46 = .ok (.bipush 10, 2) := by decide +kernel
theorem dJx4a65c_grow_92f84_48 : decode cJx4a65c_grow_92f84 48 = .ok (.iload_n 1, 1) := by decide +kernel
theorem dJx4a65c_grow_92f84_49 : decode cJx4a65c_grow_92f84 49 = .ok (.invokestatic 79, 3) := by decide +kernel
theorem dJx4a65c_grow_92f84_52 : decode cJx4a65c_grow_92f84 52 = .ok (.anewarray 7, 3) := by decide +kernel
theorem dJx4a65c_grow_92f84_55 : decode cJx4a65c_grow_92f84 55 = .ok (.dup_x1, 1) := by decide +kernel
theorem dJx4a65c_grow_92f84_56 : decode cJx4a65c_grow_92f84 56 = .ok (.putfield 9, 3) := by decide +kernel
theorem dJx4a65c_grow_92f84_59 : decode cJx4a65c_grow_92f84 59 = .ok (.areturn, 1) := by decide +kernel
theorem dJx4a65c_grow_d5877_0 : decode cJx4a65c_grow_d5877 0 = .ok (.aload_n 0, 1) := by decide +kernel
theorem dJx4a65c_grow_d5877_1 : decode cJx4a65c_grow_d5877 1 = .ok (.aload_n 0, 1) := by decide +kernel
theorem dJx4a65c_grow_d5877_2 : decode cJx4a65c_grow_d5877 2 = .ok (.getfield 48, 3) := by decide +kernel
theorem dJx4a65c_grow_d5877_5 : decode cJx4a65c_grow_d5877 5 = .ok (.iconst 1, 1) := by decide +kernel
theorem dJx4a65c_grow_d5877_6 : decode cJx4a65c_grow_d5877 6 = .ok (.iadd, 1) := by decide +kernel
theorem dJx4a65c_grow_d5877_7 : decode cJx4a65c_grow_d5877 7 = .ok (.invokevirtual 69, 3) := by decide +kernel
theorem dJx4a65c_grow_d5877_10 : decode cJx4a65c_grow_d5877 10 = .ok (.areturn, 1) := by decide +kernel
theorem dJx4a65c_size_8abf5_0 : decode cJx4a65c_size_8abf5 0 = .ok (.aload_n 0, 1) := by decide +kernel
theorem dJx4a65c_size_8abf5_1 : decode cJx4a65c_size_8abf5 1 = .ok (.getfield 48, 3) := by decide +kernel
theorem dJx4a65c_size_8abf5_4 : decode cJx4a65c_size_8abf5 4 = .ok (.ireturn, 1) := by decide +kernel
theorem dJx4a65c_isEmpty_aae02_0 : decode cJx4a65c_isEmpty_aae02 0 = .ok (.aload_n 0, 1) := by decide +kernel
theorem dJx4a65c_isEmpty_aae02_1 : decode cJx4a65c_isEmpty_aae02 1 = .ok (.getfield 48, 3) := by decide +kernel
theorem dJx4a65c_isEmpty_aae02_4 : decode cJx4a65c_isEmpty_aae02 4 = .ok (.ifCond .ne 7, 3) := by decide +kernel
theorem dJx4a65c_isEmpty_aae02_7 : decode cJx4a65c_isEmpty_aae02 7 = .ok (.iconst 1, 1) := by decide +kernel
theorem dJx4a65c_isEmpty_aae02_8 : decode cJx4a65c_isEmpty_aae02 8 = .ok (.goto 4, 3) := by decide +kernel
theorem dJx4a65c_isEmpty_aae02_11 : decode cJx4a65c_isEmpty_aae02 11 = .ok (.iconst 0, 1) := by decide +kernel
theorem dJx4a65c_isEmpty_aae02_12 : decode cJx4a65c_isEmpty_aae02 12 = .ok (.ireturn, 1) := by decide +kernel
theorem dJx4a65c_elementData_915e3_0 : decode cJx4a65c_elementData_915e3 0 = .ok (.aload_n 0, 1) := by decide +kernel
theorem dJx4a65c_elementData_915e3_1 : decode cJx4a65c_elementData_915e3 1 = .ok (.getfield 9, 3) := by decide +kernel
theorem dJx4a65c_elementData_915e3_4 : decode cJx4a65c_elementData_915e3 4 = .ok (.iload_n 1, 1) := by decide +kernel
theorem dJx4a65c_elementData_915e3_5 : decode cJx4a65c_elementData_915e3 5 = .ok (.aaload, 1) := by decide +kernel
theorem dJx4a65c_elementData_915e3_6 : decode cJx4a65c_elementData_915e3 6 = .ok (.areturn, 1) := by decide +kernel
theorem dJx4a65c_get_915e3_0 : decode cJx4a65c_get_915e3 0 = .ok (.iload_n 1, 1) := by decide +kernel
theorem dJx4a65c_get_915e3_1 : decode cJx4a65c_get_915e3 1 = .ok (.aload_n 0, 1) := by decide +kernel
theorem dJx4a65c_get_915e3_2 : decode cJx4a65c_get_915e3 2 = .ok (.getfield 48, 3) := by decide +kernel
theorem dJx4a65c_get_915e3_5 : decode cJx4a65c_get_915e3 5 = .ok (.invokestatic 118, 3) := by decide +kernel
theorem dJx4a65c_get_915e3_8 : decode cJx4a65c_get_915e3 8 = .ok (.pop, 1) := by decide +kernel
theorem dJx4a65c_get_915e3_9 : decode cJx4a65c_get_915e3 9 = .ok (.aload_n 0, 1) := by decide +kernel
theorem dJx4a65c_get_915e3_10 : decode cJx4a65c_get_915e3 10 = .ok (.iload_n 1, 1) := by decide +kernel
theorem dJx4a65c_get_915e3_11 : decode cJx4a65c_get_915e3 11 = .ok (.invokevirtual 123, 3) := by decide +kernel
theorem dJx4a65c_get_915e3_14 : decode cJx4a65c_get_915e3 14 = .ok (.areturn, 1) := by decide +kernel
theorem dJx4a65c_add_72be8_0 : decode cJx4a65c_add_72be8 0 = .ok (.iload_n 3, 1) := by decide +kernel
theorem dJx4a65c_add_72be8_1 : decode cJx4a65c_add_72be8 1 = .ok (.aload_n 2, 1) := by decide +kernel
theorem dJx4a65c_add_72be8_2 : decode cJx4a65c_add_72be8 2 = .ok (.arraylength, 1) := by decide +kernel
theorem dJx4a65c_add_72be8_3 : decode cJx4a65c_add_72be8 3 = .ok (.if_icmp .ne 8, 3) := by decide +kernel
theorem dJx4a65c_add_72be8_6 : decode cJx4a65c_add_72be8 6 = .ok (.aload_n 0, 1) := by decide +kernel
theorem dJx4a65c_add_72be8_7 : decode cJx4a65c_add_72be8 7 = .ok (.invokevirtual 129, 3) := by decide +kernel
theorem dJx4a65c_add_72be8_10 : decode cJx4a65c_add_72be8 10 = .ok (.astore_n 2, 1) := by decide +kernel
theorem dJx4a65c_add_72be8_11 : decode cJx4a65c_add_72be8 11 = .ok (.aload_n 2, 1) := by decide +kernel
theorem dJx4a65c_add_72be8_12 : decode cJx4a65c_add_72be8 12 = .ok (.iload_n 3, 1) := by decide +kernel
theorem dJx4a65c_add_72be8_13 : decode cJx4a65c_add_72be8 13 = .ok (.aload_n 1, 1) := by decide +kernel
theorem dJx4a65c_add_72be8_14 : decode cJx4a65c_add_72be8 14 = .ok (.aastore, 1) := by decide +kernel
theorem dJx4a65c_add_72be8_15 : decode cJx4a65c_add_72be8 15 = .ok (.aload_n 0, 1) := by decide +kernel
theorem dJx4a65c_add_72be8_16 : decode cJx4a65c_add_72be8 16 = .ok (.iload_n 3, 1) := by decide +kernel
theorem dJx4a65c_add_72be8_17 : decode cJx4a65c_add_72be8 17 = .ok (.iconst 1, 1) := by decide +kernel
theorem dJx4a65c_add_72be8_18 : decode cJx4a65c_add_72be8 18 = .ok (.iadd, 1) := by decide +kernel
theorem dJx4a65c_add_72be8_19 : decode cJx4a65c_add_72be8 19 = .ok (.putfield 48, 3) := by decide +kernel
theorem dJx4a65c_add_72be8_22 : decode cJx4a65c_add_72be8 22 = .ok (.return_, 1) := by decide +kernel
theorem dJx4a65c_add_9ea2d_0 : decode cJx4a65c_add_9ea2d 0 = .ok (.aload_n 0, 1) := by decide +kernel
theorem dJx4a65c_add_9ea2d_1 : decode cJx4a65c_add_9ea2d 1 = .ok (.dup, 1) := by decide +kernel
theorem dJx4a65c_add_9ea2d_2 : decode cJx4a65c_add_9ea2d 2 = .ok (.getfield 63, 3) := by decide +kernel
theorem dJx4a65c_add_9ea2d_5 : decode cJx4a65c_add_9ea2d 5 = .ok (.iconst 1, 1) := by decide +kernel
theorem dJx4a65c_add_9ea2d_6 : decode cJx4a65c_add_9ea2d 6 = .ok (.iadd, 1) := by decide +kernel
theorem dJx4a65c_add_9ea2d_7 : decode cJx4a65c_add_9ea2d 7 = .ok (.putfield 63, 3) := by decide +kernel
theorem dJx4a65c_add_9ea2d_10 : decode cJx4a65c_add_9ea2d 10 = .ok (.aload_n 0, 1) := by decide +kernel
theorem dJx4a65c_add_9ea2d_11 : decode cJx4a65c_add_9ea2d 11 = .ok (.aload_n 1, 1) := by decide +kernel
theorem dJx4a65c_add_9ea2d_12 : decode cJx4a65c_add_9ea2d 12 = .ok (.aload_n 0, 1) := by decide +kernel
theorem dJx4a65c_add_9ea2d_13 : decode cJx4a65c_add_9ea2d 13 = .ok (.getfield 9, 3) := by decide +kernel
theorem dJx4a65c_add_9ea2d_16 : decode cJx4a65c_add_9ea2d 16 = .ok (.aload_n 0, 1) := by decide +kernel
theorem dJx4a65c_add_9ea2d_17 : decode cJx4a65c_add_9ea2d 17 = .ok (.getfield 48, 3) := by decide +kernel
theorem dJx4a65c_add_9ea2d_20 : decode cJx4a65c_add_9ea2d 20 = .ok (.invokevirtual 131, 3) := by decide +kernel
theorem dJx4a65c_add_9ea2d_23 : decode cJx4a65c_add_9ea2d 23 = .ok (.iconst 1, 1) := by decide +kernel
theorem dJx4a65c_add_9ea2d_24 : decode cJx4a65c_add_9ea2d 24 = .ok (.ireturn, 1) := by decide +kernel
theorem dJx4a65c_remove_915e3_0 : decode cJx4a65c_remove_915e3 0 = .ok (.iload_n 1, 1) := by decide +kernel
theorem dJx4a65c_remove_915e3_1 : decode cJx4a65c_remove_915e3 1 = .ok (.aload_n 0, 1) := by decide +kernel
theorem dJx4a65c_remove_915e3_2 : decode cJx4a65c_remove_915e3 2 = .ok (.getfield 48, 3) := by decide +kernel
theorem dJx4a65c_remove_915e3_5 : decode cJx4a65c_remove_915e3 5 = .ok (.invokestatic 118, 3) := by decide +kernel
theorem dJx4a65c_remove_915e3_8 : decode cJx4a65c_remove_915e3 8 = .ok (.pop, 1) := by decide +kernel
theorem dJx4a65c_remove_915e3_9 : decode cJx4a65c_remove_915e3 9 = .ok (.aload_n 0, 1) := by decide +kernel
theorem dJx4a65c_remove_915e3_10 : decode cJx4a65c_remove_915e3 10 = .ok (.getfield 9, 3) := by decide +kernel
theorem dJx4a65c_remove_915e3_13 : decode cJx4a65c_remove_915e3 13 = .ok (.astore_n 2, 1) := by decide +kernel
theorem dJx4a65c_remove_915e3_14 : decode cJx4a65c_remove_915e3 14 = .ok (.aload_n 2, 1) := by decide +kernel
theorem dJx4a65c_remove_915e3_15 : decode cJx4a65c_remove_915e3 15 = .ok (.iload_n 1, 1) := by decide +kernel
theorem dJx4a65c_remove_915e3_16 : decode cJx4a65c_remove_915e3 16 = .ok (.aaload, 1) := by decide +kernel
theorem dJx4a65c_remove_915e3_17 : decode cJx4a65c_remove_915e3 17 = .ok (.astore_n 3, 1) := by decide +kernel
theorem dJx4a65c_remove_915e3_18 : decode cJx4a65c_remove_915e3 18 = .ok (.aload_n 0, 1) := by decide +kernel
theorem dJx4a65c_remove_915e3_19 : decode cJx4a65c_remove_915e3 19 = .ok (.aload_n 2, 1) := by decide +kernel
theorem dJx4a65c_remove_915e3_20 : decode cJx4a65c_remove_915e3 20 = .ok (.iload_n 1, 1) := by decide +kernel
theorem dJx4a65c_remove_915e3_21 : decode cJx4a65c_remove_915e3 21 = .ok (.invokevirtual 144, 3) := by decide +kernel
theorem dJx4a65c_remove_915e3_24 : decode cJx4a65c_remove_915e3 24 = .ok (.aload_n 3, 1) := by decide +kernel
theorem dJx4a65c_remove_915e3_25 : decode cJx4a65c_remove_915e3 25 = .ok (.areturn, 1) := by decide +kernel
theorem dJx4a65c_fastRemove_b59b0_0 : decode cJx4a65c_fastRemove_b59b0 0 = .ok (.aload_n 0, 1) := by decide +kernel
theorem dJx4a65c_fastRemove_b59b0_1 : decode cJx4a65c_fastRemove_b59b0 1 = .ok (.dup, 1) := by decide +kernel
theorem dJx4a65c_fastRemove_b59b0_2 : decode cJx4a65c_fastRemove_b59b0 2 = .ok (.getfield 63, 3) := by decide +kernel
theorem dJx4a65c_fastRemove_b59b0_5 : decode cJx4a65c_fastRemove_b59b0 5 = .ok (.iconst 1, 1) := by decide +kernel
theorem dJx4a65c_fastRemove_b59b0_6 : decode cJx4a65c_fastRemove_b59b0 6 = .ok (.iadd, 1) := by decide +kernel
theorem dJx4a65c_fastRemove_b59b0_7 : decode cJx4a65c_fastRemove_b59b0 7 = .ok (.putfield 63, 3) := by decide +kernel
theorem dJx4a65c_fastRemove_b59b0_10 : decode cJx4a65c_fastRemove_b59b0 10 = .ok (.aload_n 0, 1) := by decide +kernel
theorem dJx4a65c_fastRemove_b59b0_11 : decode cJx4a65c_fastRemove_b59b0 11 = .ok (.getfield 48, 3) := by decide +kernel
theorem dJx4a65c_fastRemove_b59b0_14 : decode cJx4a65c_fastRemove_b59b0 14 = .ok (.iconst 1, 1) := by decide +kernel
theorem dJx4a65c_fastRemove_b59b0_15 : decode cJx4a65c_fastRemove_b59b0 15 = .ok (.isub, 1) := by decide +kernel
theorem dJx4a65c_fastRemove_b59b0_16 : decode cJx4a65c_fastRemove_b59b0 16 = .ok (.dup, 1) := by decide +kernel
theorem dJx4a65c_fastRemove_b59b0_17 : decode cJx4a65c_fastRemove_b59b0 17 = .ok (.istore_n 3, 1) := by decide +kernel
theorem dJx4a65c_fastRemove_b59b0_18 : decode cJx4a65c_fastRemove_b59b0 18 = .ok (.iload_n 2, 1) := by decide +kernel
theorem dJx4a65c_fastRemove_b59b0_19 : decode cJx4a65c_fastRemove_b59b0 19 = .ok (.if_icmp .le 15, 3) := by decide +kernel
theorem dJx4a65c_fastRemove_b59b0_22 : decode cJx4a65c_fastRemove_b59b0 22 = .ok (.aload_n 1, 1) := by decide +kernel
theorem dJx4a65c_fastRemove_b59b0_23 : decode cJx4a65c_fastRemove_b59b0 23 = .ok (.iload_n 2, 1) := by decide +kernel
theorem dJx4a65c_fastRemove_b59b0_24 : decode cJx4a65c_fastRemove_b59b0 24 = .ok (.iconst 1, 1) := by decide +kernel
theorem dJx4a65c_fastRemove_b59b0_25 : decode cJx4a65c_fastRemove_b59b0 25 = .ok (.iadd, 1) := by decide +kernel
theorem dJx4a65c_fastRemove_b59b0_26 : decode cJx4a65c_fastRemove_b59b0 26 = .ok (.aload_n 1, 1) := by decide +kernel
theorem dJx4a65c_fastRemove_b59b0_27 : decode cJx4a65c_fastRemove_b59b0 27 = .ok (.iload_n 2, 1) := by decide +kernel
theorem dJx4a65c_fastRemove_b59b0_28 : decode cJx4a65c_fastRemove_b59b0 28 = .ok (.iload_n 3, 1) := by decide +kernel
theorem dJx4a65c_fastRemove_b59b0_29 : decode cJx4a65c_fastRemove_b59b0 29 = .ok (.iload_n 2, 1) := by decide +kernel
theorem dJx4a65c_fastRemove_b59b0_30 : decode cJx4a65c_fastRemove_b59b0 30 = .ok (.isub, 1) := by decide +kernel
theorem dJx4a65c_fastRemove_b59b0_31 : decode cJx4a65c_fastRemove_b59b0 31 = .ok (.invokestatic 112, 3) := by decide +kernel
theorem dJx4a65c_fastRemove_b59b0_34 : decode cJx4a65c_fastRemove_b59b0 34 = .ok (.aload_n 1, 1) := by decide +kernel
theorem dJx4a65c_fastRemove_b59b0_35 : decode cJx4a65c_fastRemove_b59b0 35 = .ok (.aload_n 0, 1) := by decide +kernel
theorem dJx4a65c_fastRemove_b59b0_36 : decode cJx4a65c_fastRemove_b59b0 36 = .ok (.iload_n 3, 1) := by decide +kernel
theorem dJx4a65c_fastRemove_b59b0_37 : decode cJx4a65c_fastRemove_b59b0 37 = .ok (.dup_x1, 1) := by decide +kernel
theorem dJx4a65c_fastRemove_b59b0_38 : decode cJx4a65c_fastRemove_b59b0 38 = .ok (.putfield 48, 3) := by decide +kernel
theorem dJx4a65c_fastRemove_b59b0_41 : decode cJx4a65c_fastRemove_b59b0 41 = .ok (.aconst_null, 1) := by decide +kernel
theorem dJx4a65c_fastRemove_b59b0_42 : decode cJx4a65c_fastRemove_b59b0 42 = .ok (.aastore, 1) := by decide +kernel
theorem dJx4a65c_fastRemove_b59b0_43 : decode cJx4a65c_fastRemove_b59b0 43 = .ok (.return_, 1) := by decide +kernel
theorem dJ7_copyOf_1904c_0 : decode cJ7_copyOf_1904c 0 = .ok (.aload_n 0, 1) := by decide +kernel
theorem dJ7_copyOf_1904c_1 : decode cJ7_copyOf_1904c 1 = .ok (.iload_n 1, 1) := by decide +kernel
theorem dJ7_copyOf_1904c_2 : decode cJ7_copyOf_1904c 2 = .ok (.aload_n 0, 1) := by decide +kernel
theorem dJ7_copyOf_1904c_3 : decode cJ7_copyOf_1904c 3 = .ok (.invokevirtual 86, 3) := by decide +kernel
theorem dJ7_copyOf_1904c_6 : decode cJ7_copyOf_1904c 6 = .ok (.invokestatic 300, 3) := by decide +kernel
theorem dJ7_copyOf_1904c_9 : decode cJ7_copyOf_1904c 9 = .ok (.areturn, 1) := by decide +kernel
theorem dJ7_copyOf_6403c_0 : decode cJ7_copyOf_6403c 0 = .ok (.aload_n 2, 1) := by decide +kernel
theorem dJ7_copyOf_6403c_1 : decode cJ7_copyOf_6403c 1 = .ok (.ldc 110, 2) := by decide +kernel
theorem dJ7_copyOf_6403c_3 : decode cJ7_copyOf_6403c 3 = .ok (.if_acmp .ne 10, 3) := by decide +kernel
theorem dJ7_copyOf_6403c_6 : decode cJ7_copyOf_6403c 6 = .ok (.iload_n 1, 1) := by decide +kernel
theorem dJ7_copyOf_6403c_7 : decode cJ7_copyOf_6403c 7 = .ok (.anewarray 2, 3) := by decide +kernel
theorem dJ7_copyOf_6403c_10 : decode cJ7_copyOf_6403c 10 = .ok (.goto 14, 3) := by decide +kernel
theorem dJ7_copyOf_6403c_13 : decode cJ7_copyOf_6403c 13 = .ok (.aload_n 2, 1) := by decide +kernel
theorem dJ7_copyOf_6403c_14 : decode cJ7_copyOf_6403c 14 = .ok (.invokevirtual 90, 3) := by decide +kernel
theorem dJ7_copyOf_6403c_17 : decode cJ7_copyOf_6403c 17 = .ok (.iload_n 1, 1) := by decide +kernel
theorem dJ7_copyOf_6403c_18 : decode cJ7_copyOf_6403c 18 = .ok (.invokestatic 95, 3) := by decide +kernel
theorem dJ7_copyOf_6403c_21 : decode cJ7_copyOf_6403c 21 = .ok (.checkcast 110, 3) := by decide +kernel
theorem dJ7_copyOf_6403c_24 : decode cJ7_copyOf_6403c 24 = .ok (.astore_n 3, 1) := by decide +kernel
theorem dJ7_copyOf_6403c_25 : decode cJ7_copyOf_6403c 25 = .ok (.aload_n 0, 1) := by decide +kernel
theorem dJ7_copyOf_6403c_26 : decode cJ7_copyOf_6403c 26 = .ok (.iconst 0, 1) := by decide +kernel
theorem dJ7_copyOf_6403c_27 : decode cJ7_copyOf_6403c 27 = .ok (.aload_n 3, 1) := by decide +kernel
theorem dJ7_copyOf_6403c_28 : decode cJ7_copyOf_6403c 28 = .ok (.iconst 0, 1) := by decide +kernel
theorem dJ7_copyOf_6403c_29 : decode cJ7_copyOf_6403c 29 = .ok (.aload_n 0, 1) := by decide +kernel
theorem dJ7_copyOf_6403c_30 : decode cJ7_copyOf_6403c 30 = .ok (.arraylength, 1) := by decide +kernel
theorem dJ7_copyOf_6403c_31 : decode cJ7_copyOf_6403c 31 = .ok (.iload_n 1, 1) := by decide +kernel
theorem dJ7_copyOf_6403c_32 : decode cJ7_copyOf_6403c 32 = .ok (.invokestatic 304, 3) := by decide +kernel
theorem dJ7_copyOf_6403c_35 : decode cJ7_copyOf_6403c 35 = .ok (.invokestatic 150, 3) := by decide +kernel
theorem dJ7_copyOf_6403c_38 : decode cJ7_copyOf_6403c 38 = .ok (.aload_n 3, 1) := by decide +kernel
theorem dJ7_copyOf_6403c_39 : decode cJ7_copyOf_6403c 39 = .ok (.areturn, 1) := by decide +kernel
theorem dJ15_checkIndex_7cf53_0 : decode cJ15_checkIndex_7cf53 0 = .ok (.iload_n 0, 1) := by decide +kernel
theorem dJ15_checkIndex_7cf53_1 : decode cJ15_checkIndex_7cf53 1 = .ok (.iload_n 1, 1) := by decide +kernel
theorem dJ15_checkIndex_7cf53_2 : decode cJ15_checkIndex_7cf53 2 = .ok (.aconst_null, 1) := by decide +kernel
theorem dJ15_checkIndex_7cf53_3 : decode cJ15_checkIndex_7cf53 3 = .ok (.invokestatic 105, 3) := by decide +kernel
theorem dJ15_checkIndex_7cf53_6 : decode cJ15_checkIndex_7cf53 6 = .ok (.ireturn, 1) := by decide +kernel
theorem dJ8_newLength_cabcc_0 : decode cJ8_newLength_cabcc 0 = .ok (.iload_n 0, 1) := by decide +kernel
theorem dJ8_newLength_cabcc_1 : decode cJ8_newLength_cabcc 1 = .ok (.iload_n 1, 1) := by decide +kernel
theorem dJ8_newLength_cabcc_2 : decode cJ8_newLength_cabcc 2 = .ok (.iload_n 2, 1) := by decide +kernel
theorem dJ8_newLength_cabcc_3 : decode cJ8_newLength_cabcc 3 = .ok (.invokestatic 194, 3) := by decide +kernel
theorem dJ8_newLength_cabcc_6 : decode cJ8_newLength_cabcc 6 = .ok (.iadd, 1) := by decide +kernel
theorem dJ8_newLength_cabcc_7 : decode cJ8_newLength_cabcc 7 = .ok (.istore_n 3, 1) := by decide +kernel
theorem dJ8_newLength_cabcc_8 : decode cJ8_newLength_cabcc 8 = .ok (.iconst 0, 1) := by decide +kernel
theorem dJ8_newLength_cabcc_9 : decode cJ8_newLength_cabcc 9 = .ok (.iload_n 3, 1) := by decide +kernel
theorem dJ8_newLength_cabcc_10 : decode cJ8_newLength_cabcc 10 = .ok (.if_icmp .ge 11, 3) := by decide +kernel
theorem dJ8_newLength_cabcc_13 : decode cJ8_newLength_cabcc 13 = .ok (.iload_n 3, 1) := by decide +kernel
theorem dJ8_newLength_cabcc_14 : decode cJ8_newLength_cabcc 14 = .ok (.ldc 200, 2) := by decide +kernel
theorem dJ8_newLength_cabcc_16 : decode cJ8_newLength_cabcc 16 = .ok (.if_icmp .gt 5, 3) := by decide +kernel
theorem dJ8_newLength_cabcc_19 : decode cJ8_newLength_cabcc 19 = .ok (.iload_n 3, 1) := by decide +kernel
theorem dJ8_newLength_cabcc_20 : decode cJ8_newLength_cabcc 20 = .ok (.ireturn, 1) := by decide +kernel
theorem dJ8_newLength_cabcc_21 : decode cJ8_newLength_cabcc 21 = .ok (.iload_n 0, 1) := by decide +kernel
theorem dJ8_newLength_cabcc_22 : decode cJ8_newLength_cabcc 22 = .ok (.iload_n 1, 1) := by decide +kernel
theorem dJ8_newLength_cabcc_23 : decode cJ8_newLength_cabcc 23 = .ok (.invokestatic 201, 3) := by decide +kernel
theorem dJ8_newLength_cabcc_26 : decode cJ8_newLength_cabcc 26 = .ok (.ireturn, 1) := by decide +kernel
theorem dJ8_hugeLength_7cf53_0 : decode cJ8_hugeLength_7cf53 0 = .ok (.iload_n 0, 1) := by decide +kernel
theorem dJ8_hugeLength_7cf53_1 : decode cJ8_hugeLength_7cf53 1 = .ok (.iload_n 1, 1) := by decide +kernel
theorem dJ8_hugeLength_7cf53_2 : decode cJ8_hugeLength_7cf53 2 = .ok (.iadd, 1) := by decide +kernel
theorem dJ8_hugeLength_7cf53_3 : decode cJ8_hugeLength_7cf53 3 = .ok (.istore_n 2, 1) := by decide +kernel
theorem dJ8_hugeLength_7cf53_4 : decode cJ8_hugeLength_7cf53 4 = .ok (.iload_n 2, 1) := by decide +kernel
theorem dJ8_hugeLength_7cf53_5 : decode cJ8_hugeLength_7cf53 5 = .ok (.ifCond .ge 44, 3) := by decide +kernel
theorem dJ8_hugeLength_7cf53_8 : decode cJ8_hugeLength_7cf53 8 = .ok (.new 204, 3) := by decide +kernel
theorem dJ8_hugeLength_7cf53_11 : decode cJ8_hugeLength_7cf53 11 = .ok (.dup, 1) := by decide +kernel
theorem dJ8_hugeLength_7cf53_12 : decode cJ8_hugeLength_7cf53 12 = .ok (.new 89, 3) := by decide +kernel
theorem dJ8_hugeLength_7cf53_15 : decode cJ8_hugeLength_7cf53 15 = .ok (.dup, 1) := by decide +kernel
theorem dJ8_hugeLength_7cf53_16 : decode cJ8_hugeLength_7cf53 16 = .ok (.invokespecial 91, 3) := by decide +kernel
theorem dJ8_hugeLength_7cf53_19 : decode cJ8_hugeLength_7cf53 19 = .ok (.ldc 206, 2) := by decide +kernel
theorem dJ8_hugeLength_7cf53_21 : decode cJ8_hugeLength_7cf53 21 = .ok (.invokevirtual 94, 3) := by decide +kernel
theorem dJ8_hugeLength_7cf53_24 : decode cJ8_hugeLength_7cf53 24 = .ok (.iload_n 0, 1) := by decide +kernel
theorem dJ8_hugeLength_7cf53_25 : decode cJ8_hugeLength_7cf53 25 = .ok (.invokevirtual 98, 3) := by decide +kernel
theorem dJ8_hugeLength_7cf53_28 : decode cJ8_hugeLength_7cf53 28 = .ok (.ldc 208, 2) := by decide +kernel
theorem dJ8_hugeLength_7cf53_30 : decode cJ8_hugeLength_7cf53 30 = .ok (.invokevirtual 94, 3) := by decide +kernel
theorem dJ8_hugeLength_7cf53_33 : decode cJ8_hugeLength_7cf53 33 = .ok (.iload_n 1, 1) := by decide +kernel
theorem dJ8_hugeLength_7cf53_34 : decode cJ8_hugeLength_7cf53 34 = .ok (.invokevirtual 98, 3) := by decide +kernel
theorem dJ8_hugeLength_7cf53_37 : decode cJ8_hugeLength_7cf53 37 = .ok (.ldc 210, 2) := by decide +kernel
theorem dJ8_hugeLength_7cf53_39 : decode cJ8_hugeLength_7cf53 39 = .ok (.invokevirtual 94, 3) := by decide +kernel
theorem dJ8_hugeLength_7cf53_42 : decode cJ8_hugeLength_7cf53 42 = .ok (.invokevirtual 101, 3) := by decide +kernel
theorem dJ8_hugeLength_7cf53_45 : decode cJ8_hugeLength_7cf53 45 = .ok (.invokespecial 212, 3) := by decide +kernel
theorem dJ8_hugeLength_7cf53_48 : decode cJ8_hugeLength_7cf53 48 = .ok (.athrow, 1) := by decide +kernel
theorem dJ8_hugeLength_7cf53_49 : decode cJ8_hugeLength_7cf53 49 = .ok (.iload_n 2, 1) := by decide +kernel
theorem dJ8_hugeLength_7cf53_50 : decode cJ8_hugeLength_7cf53 50 = .ok (.ldc 200, 2) := by decide +kernel
theorem dJ8_hugeLength_7cf53_52 : decode cJ8_hugeLength_7cf53 52 = .ok (.if_icmp .gt 6, 3) := by decide +kernel
theorem dJ8_hugeLength_7cf53_55 : decode cJ8_hugeLength_7cf53 55 = .ok (.ldc 200, 2) := by decide +kernel
theorem dJ8_hugeLength_7cf53_57 : decode cJ8_hugeLength_7cf53 57 = .ok (.ireturn, 1) := by decide +kernel
theorem dJ8_hugeLength_7cf53_58 : decode cJ8_hugeLength_7cf53 58 = .ok (.iload_n 2, 1) := by decide +kernel
theorem dJ8_hugeLength_7cf53_59 : decode cJ8_hugeLength_7cf53 59 = .ok (.ireturn, 1) := by decide +kernel
theorem dJ3_checkIndex_8e157_0 : decode cJ3_checkIndex_8e157 0 = .ok (.iload_n 0, 1) := by decide +kernel
theorem dJ3_checkIndex_8e157_1 : decode cJ3_checkIndex_8e157 1 = .ok (.ifCond .lt 8, 3) := by decide +kernel
theorem dJ3_checkIndex_8e157_4 : decode cJ3_checkIndex_8e157 4 = .ok (.iload_n 0, 1) := by decide +kernel
theorem dJ3_checkIndex_8e157_5 : decode cJ3_checkIndex_8e157 5 = .ok (.iload_n 1, 1) := by decide +kernel
theorem dJ3_checkIndex_8e157_6 : decode cJ3_checkIndex_8e157 6 = .ok (.if_icmp .lt 10, 3) := by decide +kernel
theorem dJ3_checkIndex_8e157_9 : decode cJ3_checkIndex_8e157 9 = .ok (.aload_n 2, 1) := by decide +kernel
theorem dJ3_checkIndex_8e157_10 : decode cJ3_checkIndex_8e157 10 = .ok (.iload_n 0, 1) := by decide +kernel
theorem dJ3_checkIndex_8e157_11 : decode cJ3_checkIndex_8e157 11 = .ok (.iload_n 1, 1) := by decide +kernel
theorem dJ3_checkIndex_8e157_12 : decode cJ3_checkIndex_8e157 12 = .ok (.invokestatic 95, 3) := by decide +kernel
theorem dJ3_checkIndex_8e157_15 : decode cJ3_checkIndex_8e157 15 = .ok (.athrow, 1) := by decide +kernel
theorem dJ3_checkIndex_8e157_16 : decode cJ3_checkIndex_8e157 16 = .ok (.iload_n 0, 1) := by decide +kernel
theorem dJ3_checkIndex_8e157_17 : decode cJ3_checkIndex_8e157 17 = .ok (.ireturn, 1) := by decide +kernel
theorem dL_addCutter_0 : decode cL_addCutter 0 = .ok (.aload 4, 2) := by decide +kernel
theorem dL_addCutter_2 : decode cL_addCutter 2 = .ok (.iconst 0, 1) := by decide +kernel
theorem dL_addCutter_3 : decode cL_addCutter 3 = .ok (.aload_n 0, 1) := by decide +kernel
theorem dL_addCutter_4 : decode cL_addCutter 4 = .ok (.iload_n 1, 1) := by decide +kernel
theorem dL_addCutter_5 : decode cL_addCutter 5 = .ok (.iload_n 2, 1) := by decide +kernel
theorem dL_addCutter_6 : decode cL_addCutter 6 = .ok (.iload_n 3, 1) := by decide +kernel
theorem dL_addCutter_7 : decode cL_addCutter 7 = .ok (.invokevirtual 7, 3) := by decide +kernel
theorem dL_addCutter_10 : decode cL_addCutter 10 = .ok (.i2l, 1) := by decide +kernel
theorem dL_addCutter_11 : decode cL_addCutter 11 = .ok (.lastore, 1) := by decide +kernel
theorem dL_addCutter_12 : decode cL_addCutter 12 = .ok (.goto 11, 3) := by decide +kernel
theorem dL_addCutter_15 : decode cL_addCutter 15 = .ok (.astore 5, 2) := by decide +kernel
theorem dL_addCutter_17 : decode cL_addCutter 17 = .ok (.iconst 1, 1) := by decide +kernel
theorem dL_addCutter_18 : decode cL_addCutter 18 = .ok (.ireturn, 1) := by decide +kernel
theorem dL_addCutter_19 : decode cL_addCutter 19 = .ok (.astore 5, 2) := by decide +kernel
theorem dL_addCutter_21 : decode cL_addCutter 21 = .ok (.iconst 2, 1) := by decide +kernel
theorem dL_addCutter_22 : decode cL_addCutter 22 = .ok (.ireturn, 1) := by decide +kernel
theorem dL_addCutter_23 : decode cL_addCutter 23 = .ok (.iconst 0, 1) := by decide +kernel
theorem dL_addCutter_24 : decode cL_addCutter 24 = .ok (.ireturn, 1) := by decide +kernel
theorem dL_cutterFor_0 : decode cL_cutterFor 0 = .ok (.aload_n 3, 1) := by decide +kernel
theorem dL_cutterFor_1 : decode cL_cutterFor 1 = .ok (.iconst 0, 1) := by decide +kernel
theorem dL_cutterFor_2 : decode cL_cutterFor 2 = .ok (.aload_n 0, 1) := by decide +kernel
theorem dL_cutterFor_3 : decode cL_cutterFor 3 = .ok (.iload_n 1, 1) := by decide +kernel
theorem dL_cutterFor_4 : decode cL_cutterFor 4 = .ok (.iload_n 2, 1) := by decide +kernel
theorem dL_cutterFor_5 : decode cL_cutterFor 5 = .ok (.invokevirtual 17, 3) := by decide +kernel
theorem dL_cutterFor_8 : decode cL_cutterFor 8 = .ok (.i2l, 1) := by decide +kernel
theorem dL_cutterFor_9 : decode cL_cutterFor 9 = .ok (.lastore, 1) := by decide +kernel
theorem dL_cutterFor_10 : decode cL_cutterFor 10 = .ok (.goto 7, 3) := by decide +kernel
theorem dL_cutterFor_13 : decode cL_cutterFor 13 = .ok (.astore 4, 2) := by decide +kernel
theorem dL_cutterFor_15 : decode cL_cutterFor 15 = .ok (.iconst 1, 1) := by decide +kernel
theorem dL_cutterFor_16 : decode cL_cutterFor 16 = .ok (.ireturn, 1) := by decide +kernel
theorem dL_cutterFor_17 : decode cL_cutterFor 17 = .ok (.iconst 0, 1) := by decide +kernel
theorem dL_cutterFor_18 : decode cL_cutterFor 18 = .ok (.ireturn, 1) := by decide +kernel
theorem dL_stage_0 : decode cL_stage 0 = .ok (.aload 4, 2) := by decide +kernel
theorem dL_stage_2 : decode cL_stage 2 = .ok (.iconst 0, 1) := by decide +kernel
theorem dL_stage_3 : decode cL_stage 3 = .ok (.aload_n 0, 1) := by decide +kernel
theorem dL_stage_4 : decode cL_stage 4 = .ok (.iload_n 1, 1) := by decide +kernel
theorem dL_stage_5 : decode cL_stage 5 = .ok (.iload_n 2, 1) := by decide +kernel
theorem dL_stage_6 : decode cL_stage 6 = .ok (.iload_n 3, 1) := by decide +kernel
theorem dL_stage_7 : decode cL_stage 7 = .ok (.invokevirtual 21, 3) := by decide +kernel
theorem dL_stage_10 : decode cL_stage 10 = .ok (.i2l, 1) := by decide +kernel
theorem dL_stage_11 : decode cL_stage 11 = .ok (.lastore, 1) := by decide +kernel
theorem dL_stage_12 : decode cL_stage 12 = .ok (.goto 11, 3) := by decide +kernel
theorem dL_stage_15 : decode cL_stage 15 = .ok (.astore 5, 2) := by decide +kernel
theorem dL_stage_17 : decode cL_stage 17 = .ok (.iconst 1, 1) := by decide +kernel
theorem dL_stage_18 : decode cL_stage 18 = .ok (.ireturn, 1) := by decide +kernel
theorem dL_stage_19 : decode cL_stage 19 = .ok (.astore 5, 2) := by decide +kernel
theorem dL_stage_21 : decode cL_stage 21 = .ok (.iconst 2, 1) := by decide +kernel
theorem dL_stage_22 : decode cL_stage 22 = .ok (.ireturn, 1) := by decide +kernel
theorem dL_stage_23 : decode cL_stage 23 = .ok (.iconst 0, 1) := by decide +kernel
theorem dL_stage_24 : decode cL_stage 24 = .ok (.ireturn, 1) := by decide +kernel
theorem dL_make_0 : decode cL_make 0 = .ok (.aload_n 2, 1) := by decide +kernel
theorem dL_make_1 : decode cL_make 1 = .ok (.iconst 0, 1) := by decide +kernel
theorem dL_make_2 : decode cL_make 2 = .ok (.aload_n 0, 1) := by decide +kernel
theorem dL_make_3 : decode cL_make 3 = .ok (.iload_n 1, 1) := by decide +kernel
theorem dL_make_4 : decode cL_make 4 = .ok (.invokevirtual 24, 3) := by decide +kernel
theorem dL_make_7 : decode cL_make 7 = .ok (.i2l, 1) := by decide +kernel
theorem dL_make_8 : decode cL_make 8 = .ok (.lastore, 1) := by decide +kernel
theorem dL_make_9 : decode cL_make 9 = .ok (.goto 6, 3) := by decide +kernel
theorem dL_make_12 : decode cL_make 12 = .ok (.astore_n 3, 1) := by decide +kernel
theorem dL_make_13 : decode cL_make 13 = .ok (.iconst 1, 1) := by decide +kernel
theorem dL_make_14 : decode cL_make 14 = .ok (.ireturn, 1) := by decide +kernel
theorem dL_make_15 : decode cL_make 15 = .ok (.iconst 0, 1) := by decide +kernel
theorem dL_make_16 : decode cL_make 16 = .ok (.ireturn, 1) := by decide +kernel
theorem dL_numerator_0 : decode cL_numerator 0 = .ok (.aload_n 2, 1) := by decide +kernel
theorem dL_numerator_1 : decode cL_numerator 1 = .ok (.iconst 0, 1) := by decide +kernel
theorem dL_numerator_2 : decode cL_numerator 2 = .ok (.aload_n 0, 1) := by decide +kernel
theorem dL_numerator_3 : decode cL_numerator 3 = .ok (.iload_n 1, 1) := by decide +kernel
theorem dL_numerator_4 : decode cL_numerator 4 = .ok (.invokevirtual 28, 3) := by decide +kernel
theorem dL_numerator_7 : decode cL_numerator 7 = .ok (.i2l, 1) := by decide +kernel
theorem dL_numerator_8 : decode cL_numerator 8 = .ok (.lastore, 1) := by decide +kernel
theorem dL_numerator_9 : decode cL_numerator 9 = .ok (.goto 6, 3) := by decide +kernel
theorem dL_numerator_12 : decode cL_numerator 12 = .ok (.astore_n 3, 1) := by decide +kernel
theorem dL_numerator_13 : decode cL_numerator 13 = .ok (.iconst 1, 1) := by decide +kernel
theorem dL_numerator_14 : decode cL_numerator 14 = .ok (.ireturn, 1) := by decide +kernel
theorem dL_numerator_15 : decode cL_numerator 15 = .ok (.iconst 0, 1) := by decide +kernel
theorem dL_numerator_16 : decode cL_numerator 16 = .ok (.ireturn, 1) := by decide +kernel
theorem dL_denominator_0 : decode cL_denominator 0 = .ok (.aload_n 2, 1) := by decide +kernel
theorem dL_denominator_1 : decode cL_denominator 1 = .ok (.iconst 0, 1) := by decide +kernel
theorem dL_denominator_2 : decode cL_denominator 2 = .ok (.aload_n 0, 1) := by decide +kernel
theorem dL_denominator_3 : decode cL_denominator 3 = .ok (.iload_n 1, 1) := by decide +kernel
theorem dL_denominator_4 : decode cL_denominator 4 = .ok (.invokevirtual 33, 3) := by decide +kernel
theorem dL_denominator_7 : decode cL_denominator 7 = .ok (.i2l, 1) := by decide +kernel
theorem dL_denominator_8 : decode cL_denominator 8 = .ok (.lastore, 1) := by decide +kernel
theorem dL_denominator_9 : decode cL_denominator 9 = .ok (.goto 6, 3) := by decide +kernel
theorem dL_denominator_12 : decode cL_denominator 12 = .ok (.astore_n 3, 1) := by decide +kernel
theorem dL_denominator_13 : decode cL_denominator 13 = .ok (.iconst 1, 1) := by decide +kernel
theorem dL_denominator_14 : decode cL_denominator 14 = .ok (.ireturn, 1) := by decide +kernel
theorem dL_denominator_15 : decode cL_denominator 15 = .ok (.iconst 0, 1) := by decide +kernel
theorem dL_denominator_16 : decode cL_denominator 16 = .ok (.ireturn, 1) := by decide +kernel
theorem dL_turned_0 : decode cL_turned 0 = .ok (.aload_n 3, 1) := by decide +kernel
theorem dL_turned_1 : decode cL_turned 1 = .ok (.iconst 0, 1) := by decide +kernel
theorem dL_turned_2 : decode cL_turned 2 = .ok (.aload_n 0, 1) := by decide +kernel
theorem dL_turned_3 : decode cL_turned 3 = .ok (.iload_n 1, 1) := by decide +kernel
theorem dL_turned_4 : decode cL_turned 4 = .ok (.iload_n 2, 1) := by decide +kernel
theorem dL_turned_5 : decode cL_turned 5 = .ok (.invokevirtual 36, 3) := by decide +kernel
theorem dL_turned_8 : decode cL_turned 8 = .ok (.i2l, 1) := by decide +kernel
theorem dL_turned_9 : decode cL_turned 9 = .ok (.lastore, 1) := by decide +kernel
theorem dL_turned_10 : decode cL_turned 10 = .ok (.goto 11, 3) := by decide +kernel
theorem dL_turned_13 : decode cL_turned 13 = .ok (.astore 4, 2) := by decide +kernel
theorem dL_turned_15 : decode cL_turned 15 = .ok (.iconst 1, 1) := by decide +kernel
theorem dL_turned_16 : decode cL_turned 16 = .ok (.ireturn, 1) := by decide +kernel
theorem dL_turned_17 : decode cL_turned 17 = .ok (.astore 4, 2) := by decide +kernel
theorem dL_turned_19 : decode cL_turned 19 = .ok (.iconst 2, 1) := by decide +kernel
theorem dL_turned_20 : decode cL_turned 20 = .ok (.ireturn, 1) := by decide +kernel
theorem dL_turned_21 : decode cL_turned 21 = .ok (.iconst 0, 1) := by decide +kernel
theorem dL_turned_22 : decode cL_turned 22 = .ok (.ireturn, 1) := by decide +kernel
theorem dL_turnedByWalk_0 : decode cL_turnedByWalk 0 = .ok (.aload_n 3, 1) := by decide +kernel
theorem dL_turnedByWalk_1 : decode cL_turnedByWalk 1 = .ok (.iconst 0, 1) := by decide +kernel
theorem dL_turnedByWalk_2 : decode cL_turnedByWalk 2 = .ok (.aload_n 0, 1) := by decide +kernel
theorem dL_turnedByWalk_3 : decode cL_turnedByWalk 3 = .ok (.iload_n 1, 1) := by decide +kernel
theorem dL_turnedByWalk_4 : decode cL_turnedByWalk 4 = .ok (.iload_n 2, 1) := by decide +kernel
theorem dL_turnedByWalk_5 : decode cL_turnedByWalk 5 = .ok (.invokevirtual 39, 3) := by decide +kernel
theorem dL_turnedByWalk_8 : decode cL_turnedByWalk 8 = .ok (.i2l, 1) := by decide +kernel
theorem dL_turnedByWalk_9 : decode cL_turnedByWalk 9 = .ok (.lastore, 1) := by decide +kernel
theorem dL_turnedByWalk_10 : decode cL_turnedByWalk 10 = .ok (.goto 11, 3) := by decide +kernel
theorem dL_turnedByWalk_13 : decode cL_turnedByWalk 13 = .ok (.astore 4, 2) := by decide +kernel
theorem dL_turnedByWalk_15 : decode cL_turnedByWalk 15 = .ok (.iconst 1, 1) := by decide +kernel
theorem dL_turnedByWalk_16 : decode cL_turnedByWalk 16 = .ok (.ireturn, 1) := by decide +kernel
theorem dL_turnedByWalk_17 : decode cL_turnedByWalk 17 = .ok (.astore 4, 2) := by decide +kernel
theorem dL_turnedByWalk_19 : decode cL_turnedByWalk 19 = .ok (.iconst 2, 1) := by decide +kernel
theorem dL_turnedByWalk_20 : decode cL_turnedByWalk 20 = .ok (.ireturn, 1) := by decide +kernel
theorem dL_turnedByWalk_21 : decode cL_turnedByWalk 21 = .ok (.iconst 0, 1) := by decide +kernel
theorem dL_turnedByWalk_22 : decode cL_turnedByWalk 22 = .ok (.ireturn, 1) := by decide +kernel
theorem dL_order_0 : decode cL_order 0 = .ok (.aload_n 2, 1) := by decide +kernel
theorem dL_order_1 : decode cL_order 1 = .ok (.iconst 0, 1) := by decide +kernel
theorem dL_order_2 : decode cL_order 2 = .ok (.aload_n 0, 1) := by decide +kernel
theorem dL_order_3 : decode cL_order 3 = .ok (.iload_n 1, 1) := by decide +kernel
theorem dL_order_4 : decode cL_order 4 = .ok (.invokevirtual 42, 3) := by decide +kernel
theorem dL_order_7 : decode cL_order 7 = .ok (.i2l, 1) := by decide +kernel
theorem dL_order_8 : decode cL_order 8 = .ok (.lastore, 1) := by decide +kernel
theorem dL_order_9 : decode cL_order 9 = .ok (.goto 9, 3) := by decide +kernel
theorem dL_order_12 : decode cL_order 12 = .ok (.astore_n 3, 1) := by decide +kernel
theorem dL_order_13 : decode cL_order 13 = .ok (.iconst 1, 1) := by decide +kernel
theorem dL_order_14 : decode cL_order 14 = .ok (.ireturn, 1) := by decide +kernel
theorem dL_order_15 : decode cL_order 15 = .ok (.astore_n 3, 1) := by decide +kernel
theorem dL_order_16 : decode cL_order 16 = .ok (.iconst 2, 1) := by decide +kernel
theorem dL_order_17 : decode cL_order 17 = .ok (.ireturn, 1) := by decide +kernel
theorem dL_order_18 : decode cL_order 18 = .ok (.iconst 0, 1) := by decide +kernel
theorem dL_order_19 : decode cL_order 19 = .ok (.ireturn, 1) := by decide +kernel
theorem dL_pass_0 : decode cL_pass 0 = .ok (.aload_n 2, 1) := by decide +kernel
theorem dL_pass_1 : decode cL_pass 1 = .ok (.iconst 0, 1) := by decide +kernel
theorem dL_pass_2 : decode cL_pass 2 = .ok (.aload_n 0, 1) := by decide +kernel
theorem dL_pass_3 : decode cL_pass 3 = .ok (.iload_n 1, 1) := by decide +kernel
theorem dL_pass_4 : decode cL_pass 4 = .ok (.invokevirtual 45, 3) := by decide +kernel
theorem dL_pass_7 : decode cL_pass 7 = .ok (.i2l, 1) := by decide +kernel
theorem dL_pass_8 : decode cL_pass 8 = .ok (.lastore, 1) := by decide +kernel
theorem dL_pass_9 : decode cL_pass 9 = .ok (.goto 6, 3) := by decide +kernel
theorem dL_pass_12 : decode cL_pass 12 = .ok (.astore_n 3, 1) := by decide +kernel
theorem dL_pass_13 : decode cL_pass 13 = .ok (.iconst 1, 1) := by decide +kernel
theorem dL_pass_14 : decode cL_pass 14 = .ok (.ireturn, 1) := by decide +kernel
theorem dL_pass_15 : decode cL_pass 15 = .ok (.iconst 0, 1) := by decide +kernel
theorem dL_pass_16 : decode cL_pass 16 = .ok (.ireturn, 1) := by decide +kernel
theorem dL_cutterOn_0 : decode cL_cutterOn 0 = .ok (.aload_n 2, 1) := by decide +kernel
theorem dL_cutterOn_1 : decode cL_cutterOn 1 = .ok (.iconst 0, 1) := by decide +kernel
theorem dL_cutterOn_2 : decode cL_cutterOn 2 = .ok (.aload_n 0, 1) := by decide +kernel
theorem dL_cutterOn_3 : decode cL_cutterOn 3 = .ok (.iload_n 1, 1) := by decide +kernel
theorem dL_cutterOn_4 : decode cL_cutterOn 4 = .ok (.invokevirtual 48, 3) := by decide +kernel
theorem dL_cutterOn_7 : decode cL_cutterOn 7 = .ok (.i2l, 1) := by decide +kernel
theorem dL_cutterOn_8 : decode cL_cutterOn 8 = .ok (.lastore, 1) := by decide +kernel
theorem dL_cutterOn_9 : decode cL_cutterOn 9 = .ok (.goto 6, 3) := by decide +kernel
theorem dL_cutterOn_12 : decode cL_cutterOn 12 = .ok (.astore_n 3, 1) := by decide +kernel
theorem dL_cutterOn_13 : decode cL_cutterOn 13 = .ok (.iconst 1, 1) := by decide +kernel
theorem dL_cutterOn_14 : decode cL_cutterOn 14 = .ok (.ireturn, 1) := by decide +kernel
theorem dL_cutterOn_15 : decode cL_cutterOn 15 = .ok (.iconst 0, 1) := by decide +kernel
theorem dL_cutterOn_16 : decode cL_cutterOn 16 = .ok (.ireturn, 1) := by decide +kernel
theorem dL_ticksLeft_0 : decode cL_ticksLeft 0 = .ok (.aload_n 2, 1) := by decide +kernel
theorem dL_ticksLeft_1 : decode cL_ticksLeft 1 = .ok (.iconst 0, 1) := by decide +kernel
theorem dL_ticksLeft_2 : decode cL_ticksLeft 2 = .ok (.aload_n 0, 1) := by decide +kernel
theorem dL_ticksLeft_3 : decode cL_ticksLeft 3 = .ok (.iload_n 1, 1) := by decide +kernel
theorem dL_ticksLeft_4 : decode cL_ticksLeft 4 = .ok (.invokevirtual 51, 3) := by decide +kernel
theorem dL_ticksLeft_7 : decode cL_ticksLeft 7 = .ok (.i2l, 1) := by decide +kernel
theorem dL_ticksLeft_8 : decode cL_ticksLeft 8 = .ok (.lastore, 1) := by decide +kernel
theorem dL_ticksLeft_9 : decode cL_ticksLeft 9 = .ok (.goto 6, 3) := by decide +kernel
theorem dL_ticksLeft_12 : decode cL_ticksLeft 12 = .ok (.astore_n 3, 1) := by decide +kernel
theorem dL_ticksLeft_13 : decode cL_ticksLeft 13 = .ok (.iconst 1, 1) := by decide +kernel
theorem dL_ticksLeft_14 : decode cL_ticksLeft 14 = .ok (.ireturn, 1) := by decide +kernel
theorem dL_ticksLeft_15 : decode cL_ticksLeft 15 = .ok (.iconst 0, 1) := by decide +kernel
theorem dL_ticksLeft_16 : decode cL_ticksLeft 16 = .ok (.ireturn, 1) := by decide +kernel
theorem dL_gearsLeft_0 : decode cL_gearsLeft 0 = .ok (.aload_n 2, 1) := by decide +kernel
theorem dL_gearsLeft_1 : decode cL_gearsLeft 1 = .ok (.iconst 0, 1) := by decide +kernel
theorem dL_gearsLeft_2 : decode cL_gearsLeft 2 = .ok (.aload_n 0, 1) := by decide +kernel
theorem dL_gearsLeft_3 : decode cL_gearsLeft 3 = .ok (.iload_n 1, 1) := by decide +kernel
theorem dL_gearsLeft_4 : decode cL_gearsLeft 4 = .ok (.invokevirtual 54, 3) := by decide +kernel
theorem dL_gearsLeft_7 : decode cL_gearsLeft 7 = .ok (.i2l, 1) := by decide +kernel
theorem dL_gearsLeft_8 : decode cL_gearsLeft 8 = .ok (.lastore, 1) := by decide +kernel
theorem dL_gearsLeft_9 : decode cL_gearsLeft 9 = .ok (.goto 6, 3) := by decide +kernel
theorem dL_gearsLeft_12 : decode cL_gearsLeft 12 = .ok (.astore_n 3, 1) := by decide +kernel
theorem dL_gearsLeft_13 : decode cL_gearsLeft 13 = .ok (.iconst 1, 1) := by decide +kernel
theorem dL_gearsLeft_14 : decode cL_gearsLeft 14 = .ok (.ireturn, 1) := by decide +kernel
theorem dL_gearsLeft_15 : decode cL_gearsLeft 15 = .ok (.iconst 0, 1) := by decide +kernel
theorem dL_gearsLeft_16 : decode cL_gearsLeft 16 = .ok (.ireturn, 1) := by decide +kernel
theorem dL_doneAt_0 : decode cL_doneAt 0 = .ok (.aload_n 2, 1) := by decide +kernel
theorem dL_doneAt_1 : decode cL_doneAt 1 = .ok (.iconst 0, 1) := by decide +kernel
theorem dL_doneAt_2 : decode cL_doneAt 2 = .ok (.aload_n 0, 1) := by decide +kernel
theorem dL_doneAt_3 : decode cL_doneAt 3 = .ok (.iload_n 1, 1) := by decide +kernel
theorem dL_doneAt_4 : decode cL_doneAt 4 = .ok (.invokevirtual 57, 3) := by decide +kernel
theorem dL_doneAt_7 : decode cL_doneAt 7 = .ok (.i2l, 1) := by decide +kernel
theorem dL_doneAt_8 : decode cL_doneAt 8 = .ok (.lastore, 1) := by decide +kernel
theorem dL_doneAt_9 : decode cL_doneAt 9 = .ok (.goto 6, 3) := by decide +kernel
theorem dL_doneAt_12 : decode cL_doneAt 12 = .ok (.astore_n 3, 1) := by decide +kernel
theorem dL_doneAt_13 : decode cL_doneAt 13 = .ok (.iconst 1, 1) := by decide +kernel
theorem dL_doneAt_14 : decode cL_doneAt 14 = .ok (.ireturn, 1) := by decide +kernel
theorem dL_doneAt_15 : decode cL_doneAt 15 = .ok (.iconst 0, 1) := by decide +kernel
theorem dL_doneAt_16 : decode cL_doneAt 16 = .ok (.ireturn, 1) := by decide +kernel
theorem dL_test_0 : decode cL_test 0 = .ok (.aload 4, 2) := by decide +kernel
theorem dL_test_2 : decode cL_test 2 = .ok (.iconst 0, 1) := by decide +kernel
theorem dL_test_3 : decode cL_test 3 = .ok (.aload_n 0, 1) := by decide +kernel
theorem dL_test_4 : decode cL_test 4 = .ok (.iload_n 1, 1) := by decide +kernel
theorem dL_test_5 : decode cL_test 5 = .ok (.iload_n 2, 1) := by decide +kernel
theorem dL_test_6 : decode cL_test 6 = .ok (.iload_n 3, 1) := by decide +kernel
theorem dL_test_7 : decode cL_test 7 = .ok (.invokevirtual 60, 3) := by decide +kernel
theorem dL_test_10 : decode cL_test 10 = .ok (.ifCond .eq 7, 3) := by decide +kernel
theorem dL_test_13 : decode cL_test 13 = .ok (.lconst 1, 1) := by decide +kernel
theorem dL_test_14 : decode cL_test 14 = .ok (.goto 4, 3) := by decide +kernel
theorem dL_test_17 : decode cL_test 17 = .ok (.lconst 0, 1) := by decide +kernel
theorem dL_test_18 : decode cL_test 18 = .ok (.lastore, 1) := by decide +kernel
theorem dL_test_19 : decode cL_test 19 = .ok (.goto 15, 3) := by decide +kernel
theorem dL_test_22 : decode cL_test 22 = .ok (.astore 5, 2) := by decide +kernel
theorem dL_test_24 : decode cL_test 24 = .ok (.iconst 1, 1) := by decide +kernel
theorem dL_test_25 : decode cL_test 25 = .ok (.ireturn, 1) := by decide +kernel
theorem dL_test_26 : decode cL_test 26 = .ok (.astore 5, 2) := by decide +kernel
theorem dL_test_28 : decode cL_test 28 = .ok (.iconst 2, 1) := by decide +kernel
theorem dL_test_29 : decode cL_test 29 = .ok (.ireturn, 1) := by decide +kernel
theorem dL_test_30 : decode cL_test 30 = .ok (.astore 5, 2) := by decide +kernel
theorem dL_test_32 : decode cL_test 32 = .ok (.iconst 3, 1) := by decide +kernel
theorem dL_test_33 : decode cL_test 33 = .ok (.ireturn, 1) := by decide +kernel
theorem dL_test_34 : decode cL_test 34 = .ok (.iconst 0, 1) := by decide +kernel
theorem dL_test_35 : decode cL_test 35 = .ok (.ireturn, 1) := by decide +kernel
theorem dL_wear_0 : decode cL_wear 0 = .ok (.aload_n 3, 1) := by decide +kernel
theorem dL_wear_1 : decode cL_wear 1 = .ok (.iconst 0, 1) := by decide +kernel
theorem dL_wear_2 : decode cL_wear 2 = .ok (.aload_n 0, 1) := by decide +kernel
theorem dL_wear_3 : decode cL_wear 3 = .ok (.iload_n 1, 1) := by decide +kernel
theorem dL_wear_4 : decode cL_wear 4 = .ok (.iload_n 2, 1) := by decide +kernel
theorem dL_wear_5 : decode cL_wear 5 = .ok (.invokevirtual 64, 3) := by decide +kernel
theorem dL_wear_8 : decode cL_wear 8 = .ok (.i2l, 1) := by decide +kernel
theorem dL_wear_9 : decode cL_wear 9 = .ok (.lastore, 1) := by decide +kernel
theorem dL_wear_10 : decode cL_wear 10 = .ok (.goto 7, 3) := by decide +kernel
theorem dL_wear_13 : decode cL_wear 13 = .ok (.astore 4, 2) := by decide +kernel
theorem dL_wear_15 : decode cL_wear 15 = .ok (.iconst 1, 1) := by decide +kernel
theorem dL_wear_16 : decode cL_wear 16 = .ok (.ireturn, 1) := by decide +kernel
theorem dL_wear_17 : decode cL_wear 17 = .ok (.iconst 0, 1) := by decide +kernel
theorem dL_wear_18 : decode cL_wear 18 = .ok (.ireturn, 1) := by decide +kernel
theorem dL_claims_0 : decode cL_claims 0 = .ok (.aload_n 2, 1) := by decide +kernel
theorem dL_claims_1 : decode cL_claims 1 = .ok (.iconst 0, 1) := by decide +kernel
theorem dL_claims_2 : decode cL_claims 2 = .ok (.aload_n 0, 1) := by decide +kernel
theorem dL_claims_3 : decode cL_claims 3 = .ok (.iload_n 1, 1) := by decide +kernel
theorem dL_claims_4 : decode cL_claims 4 = .ok (.invokevirtual 67, 3) := by decide +kernel
theorem dL_claims_7 : decode cL_claims 7 = .ok (.i2l, 1) := by decide +kernel
theorem dL_claims_8 : decode cL_claims 8 = .ok (.lastore, 1) := by decide +kernel
theorem dL_claims_9 : decode cL_claims 9 = .ok (.goto 6, 3) := by decide +kernel
theorem dL_claims_12 : decode cL_claims 12 = .ok (.astore_n 3, 1) := by decide +kernel
theorem dL_claims_13 : decode cL_claims 13 = .ok (.iconst 1, 1) := by decide +kernel
theorem dL_claims_14 : decode cL_claims 14 = .ok (.ireturn, 1) := by decide +kernel
theorem dL_claims_15 : decode cL_claims 15 = .ok (.iconst 0, 1) := by decide +kernel
theorem dL_claims_16 : decode cL_claims 16 = .ok (.ireturn, 1) := by decide +kernel
theorem dL_leastNew_0 : decode cL_leastNew 0 = .ok (.aload 4, 2) := by decide +kernel
theorem dL_leastNew_2 : decode cL_leastNew 2 = .ok (.iconst 0, 1) := by decide +kernel
theorem dL_leastNew_3 : decode cL_leastNew 3 = .ok (.aload_n 0, 1) := by decide +kernel
theorem dL_leastNew_4 : decode cL_leastNew 4 = .ok (.iload_n 1, 1) := by decide +kernel
theorem dL_leastNew_5 : decode cL_leastNew 5 = .ok (.iload_n 2, 1) := by decide +kernel
theorem dL_leastNew_6 : decode cL_leastNew 6 = .ok (.iload_n 3, 1) := by decide +kernel
theorem dL_leastNew_7 : decode cL_leastNew 7 = .ok (.invokevirtual 70, 3) := by decide +kernel
theorem dL_leastNew_10 : decode cL_leastNew 10 = .ok (.i2l, 1) := by decide +kernel
theorem dL_leastNew_11 : decode cL_leastNew 11 = .ok (.lastore, 1) := by decide +kernel
theorem dL_leastNew_12 : decode cL_leastNew 12 = .ok (.goto 7, 3) := by decide +kernel
theorem dL_leastNew_15 : decode cL_leastNew 15 = .ok (.astore 5, 2) := by decide +kernel
theorem dL_leastNew_17 : decode cL_leastNew 17 = .ok (.iconst 1, 1) := by decide +kernel
theorem dL_leastNew_18 : decode cL_leastNew 18 = .ok (.ireturn, 1) := by decide +kernel
theorem dL_leastNew_19 : decode cL_leastNew 19 = .ok (.iconst 0, 1) := by decide +kernel
theorem dL_leastNew_20 : decode cL_leastNew 20 = .ok (.ireturn, 1) := by decide +kernel
theorem dL_law_0 : decode cL_law 0 = .ok (.new 8, 3) := by decide +kernel
theorem dL_law_3 : decode cL_law 3 = .ok (.dup, 1) := by decide +kernel
theorem dL_law_4 : decode cL_law 4 = .ok (.invokespecial 73, 3) := by decide +kernel
theorem dL_law_7 : decode cL_law 7 = .ok (.astore_n 1, 1) := by decide +kernel
theorem dL_law_8 : decode cL_law 8 = .ok (.new 74, 3) := by decide +kernel
theorem dL_law_11 : decode cL_law 11 = .ok (.dup, 1) := by decide +kernel
theorem dL_law_12 : decode cL_law 12 = .ok (.invokespecial 76, 3) := by decide +kernel
theorem dL_law_15 : decode cL_law 15 = .ok (.astore_n 2, 1) := by decide +kernel
theorem dL_law_16 : decode cL_law 16 = .ok (.iconst 1, 1) := by decide +kernel
theorem dL_law_17 : decode cL_law 17 = .ok (.newarray .long, 2) := by decide +kernel
theorem dL_law_19 : decode cL_law 19 = .ok (.astore_n 3, 1) := by decide +kernel
theorem dL_law_20 : decode cL_law 20 = .ok (.iconst 0, 1) := by decide +kernel
theorem dL_law_21 : decode cL_law 21 = .ok (.istore 4, 2) := by decide +kernel
theorem dL_law_23 : decode cL_law 23 = .ok (.iload 4, 2) := by decide +kernel
theorem dL_law_25 : decode cL_law 25 = .ok (.aload_n 0, 1) := by decide +kernel
theorem dL_law_26 : decode cL_law 26 = .ok (.arraylength, 1) := by decide +kernel
theorem dL_law_27 : decode cL_law 27 = .ok (.iconst 4, 1) := by decide +kernel
theorem dL_law_28 : decode cL_law 28 = .ok (.isub, 1) := by decide +kernel
theorem dL_law_29 : decode cL_law 29 = .ok (.if_icmp .gt 1311, 3) := by decide +kernel
theorem dL_law_32 : decode cL_law 32 = .ok (.aload_n 0, 1) := by decide +kernel
theorem dL_law_33 : decode cL_law 33 = .ok (.iload 4, 2) := by decide +kernel
theorem dL_law_35 : decode cL_law 35 = .ok (.iaload, 1) := by decide +kernel
theorem dL_law_36 : decode cL_law 36 = .ok (.bipush 31, 2) := by decide +kernel
theorem dL_law_38 : decode cL_law 38 = .ok (.iand, 1) := by decide +kernel
theorem dL_law_39 : decode cL_law 39 = .ok (.tableswitch 1295 0 20 #[97, 177, 245, 325, 338, 394, 450, 506, 574, 642, 698, 754, 767, 780, 836, 892, 948, 1004, 1091, 1159, 1215], 97) := by decide +kernel
theorem dL_law_136 : decode cL_law 136 = .ok (.aload_n 1, 1) := by decide +kernel
theorem dL_law_137 : decode cL_law 137 = .ok (.aload_n 0, 1) := by decide +kernel
theorem dL_law_138 : decode cL_law 138 = .ok (.iload 4, 2) := by decide +kernel
theorem dL_law_140 : decode cL_law 140 = .ok (.iconst 1, 1) := by decide +kernel
theorem dL_law_141 : decode cL_law 141 = .ok (.iadd, 1) := by decide +kernel
theorem dL_law_142 : decode cL_law 142 = .ok (.iaload, 1) := by decide +kernel
theorem dL_law_143 : decode cL_law 143 = .ok (.aload_n 0, 1) := by decide +kernel
theorem dL_law_144 : decode cL_law 144 = .ok (.iload 4, 2) := by decide +kernel
theorem dL_law_146 : decode cL_law 146 = .ok (.iconst 2, 1) := by decide +kernel
theorem dL_law_147 : decode cL_law 147 = .ok (.iadd, 1) := by decide +kernel
theorem dL_law_148 : decode cL_law 148 = .ok (.iaload, 1) := by decide +kernel
theorem dL_law_149 : decode cL_law 149 = .ok (.aload_n 0, 1) := by decide +kernel
theorem dL_law_150 : decode cL_law 150 = .ok (.iload 4, 2) := by decide +kernel
theorem dL_law_152 : decode cL_law 152 = .ok (.iconst 3, 1) := by decide +kernel
theorem dL_law_153 : decode cL_law 153 = .ok (.iadd, 1) := by decide +kernel
theorem dL_law_154 : decode cL_law 154 = .ok (.iaload, 1) := by decide +kernel
theorem dL_law_155 : decode cL_law 155 = .ok (.aload_n 3, 1) := by decide +kernel
theorem dL_law_156 : decode cL_law 156 = .ok (.invokestatic 77, 3) := by decide +kernel
theorem dL_law_159 : decode cL_law 159 = .ok (.istore 5, 2) := by decide +kernel
theorem dL_law_161 : decode cL_law 161 = .ok (.aload_n 2, 1) := by decide +kernel
theorem dL_law_162 : decode cL_law 162 = .ok (.aload_n 0, 1) := by decide +kernel
theorem dL_law_163 : decode cL_law 163 = .ok (.iload 4, 2) := by decide +kernel
theorem dL_law_165 : decode cL_law 165 = .ok (.iconst 1, 1) := by decide +kernel
theorem dL_law_166 : decode cL_law 166 = .ok (.iadd, 1) := by decide +kernel
theorem dL_law_167 : decode cL_law 167 = .ok (.iaload, 1) := by decide +kernel
theorem dL_law_168 : decode cL_law 168 = .ok (.aload_n 0, 1) := by decide +kernel
theorem dL_law_169 : decode cL_law 169 = .ok (.iload 4, 2) := by decide +kernel
theorem dL_law_171 : decode cL_law 171 = .ok (.iconst 2, 1) := by decide +kernel
theorem dL_law_172 : decode cL_law 172 = .ok (.iadd, 1) := by decide +kernel
theorem dL_law_173 : decode cL_law 173 = .ok (.iaload, 1) := by decide +kernel
theorem dL_law_174 : decode cL_law 174 = .ok (.aload_n 0, 1) := by decide +kernel
theorem dL_law_175 : decode cL_law 175 = .ok (.iload 4, 2) := by decide +kernel
theorem dL_law_177 : decode cL_law 177 = .ok (.iconst 3, 1) := by decide +kernel
theorem dL_law_178 : decode cL_law 178 = .ok (.iadd, 1) := by decide +kernel
theorem dL_law_179 : decode cL_law 179 = .ok (.iaload, 1) := by decide +kernel
theorem dL_law_180 : decode cL_law 180 = .ok (.invokevirtual 82, 3) := by decide +kernel
theorem dL_law_183 : decode cL_law 183 = .ok (.istore 6, 2) := by decide +kernel
theorem dL_law_185 : decode cL_law 185 = .ok (.aload_n 2, 1) := by decide +kernel
theorem dL_law_186 : decode cL_law 186 = .ok (.invokevirtual 83, 3) := by decide +kernel
theorem dL_law_189 : decode cL_law 189 = .ok (.iload 5, 2) := by decide +kernel
theorem dL_law_191 : decode cL_law 191 = .ok (.if_icmp .eq 5, 3) := by decide +kernel
theorem dL_law_194 : decode cL_law 194 = .ok (.iconst 0, 1) := by decide +kernel
theorem dL_law_195 : decode cL_law 195 = .ok (.ireturn, 1) := by decide +kernel
theorem dL_law_196 : decode cL_law 196 = .ok (.iload 5, 2) := by decide +kernel
theorem dL_law_198 : decode cL_law 198 = .ok (.ifCond .ne 15, 3) := by decide +kernel
theorem dL_law_201 : decode cL_law 201 = .ok (.aload_n 3, 1) := by decide +kernel
theorem dL_law_202 : decode cL_law 202 = .ok (.iconst 0, 1) := by decide +kernel
theorem dL_law_203 : decode cL_law 203 = .ok (.laload, 1) := by decide +kernel
theorem dL_law_204 : decode cL_law 204 = .ok (.iload 6, 2) := by decide +kernel
theorem dL_law_206 : decode cL_law 206 = .ok (.i2l, 1) := by decide +kernel
theorem dL_law_207 : decode cL_law 207 = .ok (.lcmp, 1) := by decide +kernel
theorem dL_law_208 : decode cL_law 208 = .ok (.ifCond .eq 5, 3) := by decide +kernel
theorem dL_law_211 : decode cL_law 211 = .ok (.iconst 0, 1) := by decide +kernel
theorem dL_law_212 : decode cL_law 212 = .ok (.ireturn, 1) := by decide +kernel
theorem dL_law_213 : decode cL_law 213 = .ok (.goto 1121, 3) := by decide +kernel
theorem dL_law_216 : decode cL_law 216 = .ok (.aload_n 1, 1) := by decide +kernel
theorem dL_law_217 : decode cL_law 217 = .ok (.aload_n 0, 1) := by decide +kernel
theorem dL_law_218 : decode cL_law 218 = .ok (.iload 4, 2) := by decide +kernel
theorem dL_law_220 : decode cL_law 220 = .ok (.iconst 1, 1) := by decide +kernel
theorem dL_law_221 : decode cL_law 221 = .ok (.iadd, 1) := by decide +kernel
theorem dL_law_222 : decode cL_law 222 = .ok (.iaload, 1) := by decide +kernel
theorem dL_law_223 : decode cL_law 223 = .ok (.aload_n 0, 1) := by decide +kernel
theorem dL_law_224 : decode cL_law 224 = .ok (.iload 4, 2) := by decide +kernel
theorem dL_law_226 : decode cL_law 226 = .ok (.iconst 2, 1) := by decide +kernel
theorem dL_law_227 : decode cL_law 227 = .ok (.iadd, 1) := by decide +kernel
theorem dL_law_228 : decode cL_law 228 = .ok (.iaload, 1) := by decide +kernel
theorem dL_law_229 : decode cL_law 229 = .ok (.aload_n 3, 1) := by decide +kernel
theorem dL_law_230 : decode cL_law 230 = .ok (.invokestatic 87, 3) := by decide +kernel
theorem dL_law_233 : decode cL_law 233 = .ok (.istore 5, 2) := by decide +kernel
theorem dL_law_235 : decode cL_law 235 = .ok (.aload_n 2, 1) := by decide +kernel
theorem dL_law_236 : decode cL_law 236 = .ok (.aload_n 0, 1) := by decide +kernel
theorem dL_law_237 : decode cL_law 237 = .ok (.iload 4, 2) := by decide +kernel
theorem dL_law_239 : decode cL_law 239 = .ok (.iconst 1, 1) := by decide +kernel
theorem dL_law_240 : decode cL_law 240 = .ok (.iadd, 1) := by decide +kernel
theorem dL_law_241 : decode cL_law 241 = .ok (.iaload, 1) := by decide +kernel
theorem dL_law_242 : decode cL_law 242 = .ok (.aload_n 0, 1) := by decide +kernel
theorem dL_law_243 : decode cL_law 243 = .ok (.iload 4, 2) := by decide +kernel
theorem dL_law_245 : decode cL_law 245 = .ok (.iconst 2, 1) := by decide +kernel
theorem dL_law_246 : decode cL_law 246 = .ok (.iadd, 1) := by decide +kernel
theorem dL_law_247 : decode cL_law 247 = .ok (.iaload, 1) := by decide +kernel
theorem dL_law_248 : decode cL_law 248 = .ok (.invokevirtual 90, 3) := by decide +kernel
theorem dL_law_251 : decode cL_law 251 = .ok (.istore 6, 2) := by decide +kernel
theorem dL_law_253 : decode cL_law 253 = .ok (.aload_n 2, 1) := by decide +kernel
theorem dL_law_254 : decode cL_law 254 = .ok (.invokevirtual 83, 3) := by decide +kernel
theorem dL_law_257 : decode cL_law 257 = .ok (.iload 5, 2) := by decide +kernel
theorem dL_law_259 : decode cL_law 259 = .ok (.if_icmp .eq 5, 3) := by decide +kernel
theorem dL_law_262 : decode cL_law 262 = .ok (.iconst 0, 1) := by decide +kernel
theorem dL_law_263 : decode cL_law 263 = .ok (.ireturn, 1) := by decide +kernel
theorem dL_law_264 : decode cL_law 264 = .ok (.iload 5, 2) := by decide +kernel
theorem dL_law_266 : decode cL_law 266 = .ok (.ifCond .ne 15, 3) := by decide +kernel
theorem dL_law_269 : decode cL_law 269 = .ok (.aload_n 3, 1) := by decide +kernel
theorem dL_law_270 : decode cL_law 270 = .ok (.iconst 0, 1) := by decide +kernel
theorem dL_law_271 : decode cL_law 271 = .ok (.laload, 1) := by decide +kernel
theorem dL_law_272 : decode cL_law 272 = .ok (.iload 6, 2) := by decide +kernel
theorem dL_law_274 : decode cL_law 274 = .ok (.i2l, 1) := by decide +kernel
theorem dL_law_275 : decode cL_law 275 = .ok (.lcmp, 1) := by decide +kernel
theorem dL_law_276 : decode cL_law 276 = .ok (.ifCond .eq 5, 3) := by decide +kernel
theorem dL_law_279 : decode cL_law 279 = .ok (.iconst 0, 1) := by decide +kernel
theorem dL_law_280 : decode cL_law 280 = .ok (.ireturn, 1) := by decide +kernel
theorem dL_law_281 : decode cL_law 281 = .ok (.goto 1053, 3) := by decide +kernel
theorem dL_law_284 : decode cL_law 284 = .ok (.aload_n 1, 1) := by decide +kernel
theorem dL_law_285 : decode cL_law 285 = .ok (.aload_n 0, 1) := by decide +kernel
theorem dL_law_286 : decode cL_law 286 = .ok (.iload 4, 2) := by decide +kernel
theorem dL_law_288 : decode cL_law 288 = .ok (.iconst 1, 1) := by decide +kernel
theorem dL_law_289 : decode cL_law 289 = .ok (.iadd, 1) := by decide +kernel
theorem dL_law_290 : decode cL_law 290 = .ok (.iaload, 1) := by decide +kernel
theorem dL_law_291 : decode cL_law 291 = .ok (.aload_n 0, 1) := by decide +kernel
theorem dL_law_292 : decode cL_law 292 = .ok (.iload 4, 2) := by decide +kernel
theorem dL_law_294 : decode cL_law 294 = .ok (.iconst 2, 1) := by decide +kernel
theorem dL_law_295 : decode cL_law 295 = .ok (.iadd, 1) := by decide +kernel
theorem dL_law_296 : decode cL_law 296 = .ok (.iaload, 1) := by decide +kernel
theorem dL_law_297 : decode cL_law 297 = .ok (.aload_n 0, 1) := by decide +kernel
theorem dL_law_298 : decode cL_law 298 = .ok (.iload 4, 2) := by decide +kernel
theorem dL_law_300 : decode cL_law 300 = .ok (.iconst 3, 1) := by decide +kernel
theorem dL_law_301 : decode cL_law 301 = .ok (.iadd, 1) := by decide +kernel
theorem dL_law_302 : decode cL_law 302 = .ok (.iaload, 1) := by decide +kernel
theorem dL_law_303 : decode cL_law 303 = .ok (.aload_n 3, 1) := by decide +kernel
theorem dL_law_304 : decode cL_law 304 = .ok (.invokestatic 91, 3) := by decide +kernel
theorem dL_law_307 : decode cL_law 307 = .ok (.istore 5, 2) := by decide +kernel
theorem dL_law_309 : decode cL_law 309 = .ok (.aload_n 2, 1) := by decide +kernel
theorem dL_law_310 : decode cL_law 310 = .ok (.aload_n 0, 1) := by decide +kernel
theorem dL_law_311 : decode cL_law 311 = .ok (.iload 4, 2) := by decide +kernel
theorem dL_law_313 : decode cL_law 313 = .ok (.iconst 1, 1) := by decide +kernel
theorem dL_law_314 : decode cL_law 314 = .ok (.iadd, 1) := by decide +kernel
theorem dL_law_315 : decode cL_law 315 = .ok (.iaload, 1) := by decide +kernel
theorem dL_law_316 : decode cL_law 316 = .ok (.aload_n 0, 1) := by decide +kernel
theorem dL_law_317 : decode cL_law 317 = .ok (.iload 4, 2) := by decide +kernel
theorem dL_law_319 : decode cL_law 319 = .ok (.iconst 2, 1) := by decide +kernel
theorem dL_law_320 : decode cL_law 320 = .ok (.iadd, 1) := by decide +kernel
theorem dL_law_321 : decode cL_law 321 = .ok (.iaload, 1) := by decide +kernel
theorem dL_law_322 : decode cL_law 322 = .ok (.aload_n 0, 1) := by decide +kernel
theorem dL_law_323 : decode cL_law 323 = .ok (.iload 4, 2) := by decide +kernel
theorem dL_law_325 : decode cL_law 325 = .ok (.iconst 3, 1) := by decide +kernel
theorem dL_law_326 : decode cL_law 326 = .ok (.iadd, 1) := by decide +kernel
theorem dL_law_327 : decode cL_law 327 = .ok (.iaload, 1) := by decide +kernel
theorem dL_law_328 : decode cL_law 328 = .ok (.invokevirtual 93, 3) := by decide +kernel
theorem dL_law_331 : decode cL_law 331 = .ok (.istore 6, 2) := by decide +kernel
theorem dL_law_333 : decode cL_law 333 = .ok (.aload_n 2, 1) := by decide +kernel
theorem dL_law_334 : decode cL_law 334 = .ok (.invokevirtual 83, 3) := by decide +kernel
theorem dL_law_337 : decode cL_law 337 = .ok (.iload 5, 2) := by decide +kernel
theorem dL_law_339 : decode cL_law 339 = .ok (.if_icmp .eq 5, 3) := by decide +kernel
theorem dL_law_342 : decode cL_law 342 = .ok (.iconst 0, 1) := by decide +kernel
theorem dL_law_343 : decode cL_law 343 = .ok (.ireturn, 1) := by decide +kernel
theorem dL_law_344 : decode cL_law 344 = .ok (.iload 5, 2) := by decide +kernel
theorem dL_law_346 : decode cL_law 346 = .ok (.ifCond .ne 15, 3) := by decide +kernel
theorem dL_law_349 : decode cL_law 349 = .ok (.aload_n 3, 1) := by decide +kernel
theorem dL_law_350 : decode cL_law 350 = .ok (.iconst 0, 1) := by decide +kernel
theorem dL_law_351 : decode cL_law 351 = .ok (.laload, 1) := by decide +kernel
theorem dL_law_352 : decode cL_law 352 = .ok (.iload 6, 2) := by decide +kernel
theorem dL_law_354 : decode cL_law 354 = .ok (.i2l, 1) := by decide +kernel
theorem dL_law_355 : decode cL_law 355 = .ok (.lcmp, 1) := by decide +kernel
theorem dL_law_356 : decode cL_law 356 = .ok (.ifCond .eq 5, 3) := by decide +kernel
theorem dL_law_359 : decode cL_law 359 = .ok (.iconst 0, 1) := by decide +kernel
theorem dL_law_360 : decode cL_law 360 = .ok (.ireturn, 1) := by decide +kernel
theorem dL_law_361 : decode cL_law 361 = .ok (.goto 973, 3) := by decide +kernel
theorem dL_law_364 : decode cL_law 364 = .ok (.aload_n 1, 1) := by decide +kernel
theorem dL_law_365 : decode cL_law 365 = .ok (.invokevirtual 94, 3) := by decide +kernel
theorem dL_law_368 : decode cL_law 368 = .ok (.aload_n 2, 1) := by decide +kernel
theorem dL_law_369 : decode cL_law 369 = .ok (.invokevirtual 97, 3) := by decide +kernel
theorem dL_law_372 : decode cL_law 372 = .ok (.if_icmp .eq 962, 3) := by decide +kernel
theorem dL_law_375 : decode cL_law 375 = .ok (.iconst 0, 1) := by decide +kernel
theorem dL_law_376 : decode cL_law 376 = .ok (.ireturn, 1) := by decide +kernel
theorem dL_law_377 : decode cL_law 377 = .ok (.aload_n 1, 1) := by decide +kernel
theorem dL_law_378 : decode cL_law 378 = .ok (.aload_n 0, 1) := by decide +kernel
theorem dL_law_379 : decode cL_law 379 = .ok (.iload 4, 2) := by decide +kernel
theorem dL_law_381 : decode cL_law 381 = .ok (.iconst 1, 1) := by decide +kernel
theorem dL_law_382 : decode cL_law 382 = .ok (.iadd, 1) := by decide +kernel
theorem dL_law_383 : decode cL_law 383 = .ok (.iaload, 1) := by decide +kernel
theorem dL_law_384 : decode cL_law 384 = .ok (.aload_n 3, 1) := by decide +kernel
theorem dL_law_385 : decode cL_law 385 = .ok (.invokestatic 98, 3) := by decide +kernel
theorem dL_law_388 : decode cL_law 388 = .ok (.istore 5, 2) := by decide +kernel
theorem dL_law_390 : decode cL_law 390 = .ok (.aload_n 2, 1) := by decide +kernel
theorem dL_law_391 : decode cL_law 391 = .ok (.aload_n 0, 1) := by decide +kernel
theorem dL_law_392 : decode cL_law 392 = .ok (.iload 4, 2) := by decide +kernel
theorem dL_law_394 : decode cL_law 394 = .ok (.iconst 1, 1) := by decide +kernel
theorem dL_law_395 : decode cL_law 395 = .ok (.iadd, 1) := by decide +kernel
theorem dL_law_396 : decode cL_law 396 = .ok (.iaload, 1) := by decide +kernel
theorem dL_law_397 : decode cL_law 397 = .ok (.invokevirtual 101, 3) := by decide +kernel
theorem dL_law_400 : decode cL_law 400 = .ok (.istore 6, 2) := by decide +kernel
theorem dL_law_402 : decode cL_law 402 = .ok (.aload_n 2, 1) := by decide +kernel
theorem dL_law_403 : decode cL_law 403 = .ok (.invokevirtual 83, 3) := by decide +kernel
theorem dL_law_406 : decode cL_law 406 = .ok (.iload 5, 2) := by decide +kernel
theorem dL_law_408 : decode cL_law 408 = .ok (.if_icmp .eq 5, 3) := by decide +kernel
theorem dL_law_411 : decode cL_law 411 = .ok (.iconst 0, 1) := by decide +kernel
theorem dL_law_412 : decode cL_law 412 = .ok (.ireturn, 1) := by decide +kernel
theorem dL_law_413 : decode cL_law 413 = .ok (.iload 5, 2) := by decide +kernel
theorem dL_law_415 : decode cL_law 415 = .ok (.ifCond .ne 15, 3) := by decide +kernel
theorem dL_law_418 : decode cL_law 418 = .ok (.aload_n 3, 1) := by decide +kernel
theorem dL_law_419 : decode cL_law 419 = .ok (.iconst 0, 1) := by decide +kernel
theorem dL_law_420 : decode cL_law 420 = .ok (.laload, 1) := by decide +kernel
theorem dL_law_421 : decode cL_law 421 = .ok (.iload 6, 2) := by decide +kernel
theorem dL_law_423 : decode cL_law 423 = .ok (.i2l, 1) := by decide +kernel
theorem dL_law_424 : decode cL_law 424 = .ok (.lcmp, 1) := by decide +kernel
theorem dL_law_425 : decode cL_law 425 = .ok (.ifCond .eq 5, 3) := by decide +kernel
theorem dL_law_428 : decode cL_law 428 = .ok (.iconst 0, 1) := by decide +kernel
theorem dL_law_429 : decode cL_law 429 = .ok (.ireturn, 1) := by decide +kernel
theorem dL_law_430 : decode cL_law 430 = .ok (.goto 904, 3) := by decide +kernel
theorem dL_law_433 : decode cL_law 433 = .ok (.aload_n 1, 1) := by decide +kernel
theorem dL_law_434 : decode cL_law 434 = .ok (.aload_n 0, 1) := by decide +kernel
theorem dL_law_435 : decode cL_law 435 = .ok (.iload 4, 2) := by decide +kernel
theorem dL_law_437 : decode cL_law 437 = .ok (.iconst 1, 1) := by decide +kernel
theorem dL_law_438 : decode cL_law 438 = .ok (.iadd, 1) := by decide +kernel
theorem dL_law_439 : decode cL_law 439 = .ok (.iaload, 1) := by decide +kernel
theorem dL_law_440 : decode cL_law 440 = .ok (.aload_n 3, 1) := by decide +kernel
theorem dL_law_441 : decode cL_law 441 = .ok (.invokestatic 102, 3) := by decide +kernel
theorem dL_law_444 : decode cL_law 444 = .ok (.istore 5, 2) := by decide +kernel
theorem dL_law_446 : decode cL_law 446 = .ok (.aload_n 2, 1) := by decide +kernel
theorem dL_law_447 : decode cL_law 447 = .ok (.aload_n 0, 1) := by decide +kernel
theorem dL_law_448 : decode cL_law 448 = .ok (.iload 4, 2) := by decide +kernel
theorem dL_law_450 : decode cL_law 450 = .ok (.iconst 1, 1) := by decide +kernel
theorem dL_law_451 : decode cL_law 451 = .ok (.iadd, 1) := by decide +kernel
theorem dL_law_452 : decode cL_law 452 = .ok (.iaload, 1) := by decide +kernel
theorem dL_law_453 : decode cL_law 453 = .ok (.invokevirtual 104, 3) := by decide +kernel
theorem dL_law_456 : decode cL_law 456 = .ok (.istore 6, 2) := by decide +kernel
theorem dL_law_458 : decode cL_law 458 = .ok (.aload_n 2, 1) := by decide +kernel
theorem dL_law_459 : decode cL_law 459 = .ok (.invokevirtual 83, 3) := by decide +kernel
theorem dL_law_462 : decode cL_law 462 = .ok (.iload 5, 2) := by decide +kernel
theorem dL_law_464 : decode cL_law 464 = .ok (.if_icmp .eq 5, 3) := by decide +kernel
theorem dL_law_467 : decode cL_law 467 = .ok (.iconst 0, 1) := by decide +kernel
theorem dL_law_468 : decode cL_law 468 = .ok (.ireturn, 1) := by decide +kernel
theorem dL_law_469 : decode cL_law 469 = .ok (.iload 5, 2) := by decide +kernel
theorem dL_law_471 : decode cL_law 471 = .ok (.ifCond .ne 15, 3) := by decide +kernel
theorem dL_law_474 : decode cL_law 474 = .ok (.aload_n 3, 1) := by decide +kernel
theorem dL_law_475 : decode cL_law 475 = .ok (.iconst 0, 1) := by decide +kernel
theorem dL_law_476 : decode cL_law 476 = .ok (.laload, 1) := by decide +kernel
theorem dL_law_477 : decode cL_law 477 = .ok (.iload 6, 2) := by decide +kernel
theorem dL_law_479 : decode cL_law 479 = .ok (.i2l, 1) := by decide +kernel
theorem dL_law_480 : decode cL_law 480 = .ok (.lcmp, 1) := by decide +kernel
theorem dL_law_481 : decode cL_law 481 = .ok (.ifCond .eq 5, 3) := by decide +kernel
theorem dL_law_484 : decode cL_law 484 = .ok (.iconst 0, 1) := by decide +kernel
theorem dL_law_485 : decode cL_law 485 = .ok (.ireturn, 1) := by decide +kernel
theorem dL_law_486 : decode cL_law 486 = .ok (.goto 848, 3) := by decide +kernel
theorem dL_law_489 : decode cL_law 489 = .ok (.aload_n 1, 1) := by decide +kernel
theorem dL_law_490 : decode cL_law 490 = .ok (.aload_n 0, 1) := by decide +kernel
theorem dL_law_491 : decode cL_law 491 = .ok (.iload 4, 2) := by decide +kernel
theorem dL_law_493 : decode cL_law 493 = .ok (.iconst 1, 1) := by decide +kernel
theorem dL_law_494 : decode cL_law 494 = .ok (.iadd, 1) := by decide +kernel
theorem dL_law_495 : decode cL_law 495 = .ok (.iaload, 1) := by decide +kernel
theorem dL_law_496 : decode cL_law 496 = .ok (.aload_n 3, 1) := by decide +kernel
theorem dL_law_497 : decode cL_law 497 = .ok (.invokestatic 105, 3) := by decide +kernel
theorem dL_law_500 : decode cL_law 500 = .ok (.istore 5, 2) := by decide +kernel
theorem dL_law_502 : decode cL_law 502 = .ok (.aload_n 2, 1) := by decide +kernel
theorem dL_law_503 : decode cL_law 503 = .ok (.aload_n 0, 1) := by decide +kernel
theorem dL_law_504 : decode cL_law 504 = .ok (.iload 4, 2) := by decide +kernel
theorem dL_law_506 : decode cL_law 506 = .ok (.iconst 1, 1) := by decide +kernel
theorem dL_law_507 : decode cL_law 507 = .ok (.iadd, 1) := by decide +kernel
theorem dL_law_508 : decode cL_law 508 = .ok (.iaload, 1) := by decide +kernel
theorem dL_law_509 : decode cL_law 509 = .ok (.invokevirtual 107, 3) := by decide +kernel
theorem dL_law_512 : decode cL_law 512 = .ok (.istore 6, 2) := by decide +kernel
theorem dL_law_514 : decode cL_law 514 = .ok (.aload_n 2, 1) := by decide +kernel
theorem dL_law_515 : decode cL_law 515 = .ok (.invokevirtual 83, 3) := by decide +kernel
theorem dL_law_518 : decode cL_law 518 = .ok (.iload 5, 2) := by decide +kernel
theorem dL_law_520 : decode cL_law 520 = .ok (.if_icmp .eq 5, 3) := by decide +kernel
theorem dL_law_523 : decode cL_law 523 = .ok (.iconst 0, 1) := by decide +kernel
theorem dL_law_524 : decode cL_law 524 = .ok (.ireturn, 1) := by decide +kernel
theorem dL_law_525 : decode cL_law 525 = .ok (.iload 5, 2) := by decide +kernel
theorem dL_law_527 : decode cL_law 527 = .ok (.ifCond .ne 15, 3) := by decide +kernel
theorem dL_law_530 : decode cL_law 530 = .ok (.aload_n 3, 1) := by decide +kernel
theorem dL_law_531 : decode cL_law 531 = .ok (.iconst 0, 1) := by decide +kernel
theorem dL_law_532 : decode cL_law 532 = .ok (.laload, 1) := by decide +kernel
theorem dL_law_533 : decode cL_law 533 = .ok (.iload 6, 2) := by decide +kernel
theorem dL_law_535 : decode cL_law 535 = .ok (.i2l, 1) := by decide +kernel
theorem dL_law_536 : decode cL_law 536 = .ok (.lcmp, 1) := by decide +kernel
theorem dL_law_537 : decode cL_law 537 = .ok (.ifCond .eq 5, 3) := by decide +kernel
theorem dL_law_540 : decode cL_law 540 = .ok (.iconst 0, 1) := by decide +kernel
theorem dL_law_541 : decode cL_law 541 = .ok (.ireturn, 1) := by decide +kernel
theorem dL_law_542 : decode cL_law 542 = .ok (.goto 792, 3) := by decide +kernel
theorem dL_law_545 : decode cL_law 545 = .ok (.aload_n 1, 1) := by decide +kernel
theorem dL_law_546 : decode cL_law 546 = .ok (.aload_n 0, 1) := by decide +kernel
theorem dL_law_547 : decode cL_law 547 = .ok (.iload 4, 2) := by decide +kernel
theorem dL_law_549 : decode cL_law 549 = .ok (.iconst 1, 1) := by decide +kernel
theorem dL_law_550 : decode cL_law 550 = .ok (.iadd, 1) := by decide +kernel
theorem dL_law_551 : decode cL_law 551 = .ok (.iaload, 1) := by decide +kernel
theorem dL_law_552 : decode cL_law 552 = .ok (.aload_n 0, 1) := by decide +kernel
theorem dL_law_553 : decode cL_law 553 = .ok (.iload 4, 2) := by decide +kernel
theorem dL_law_555 : decode cL_law 555 = .ok (.iconst 2, 1) := by decide +kernel
theorem dL_law_556 : decode cL_law 556 = .ok (.iadd, 1) := by decide +kernel
theorem dL_law_557 : decode cL_law 557 = .ok (.iaload, 1) := by decide +kernel
theorem dL_law_558 : decode cL_law 558 = .ok (.aload_n 3, 1) := by decide +kernel
theorem dL_law_559 : decode cL_law 559 = .ok (.invokestatic 108, 3) := by decide +kernel
theorem dL_law_562 : decode cL_law 562 = .ok (.istore 5, 2) := by decide +kernel
theorem dL_law_564 : decode cL_law 564 = .ok (.aload_n 2, 1) := by decide +kernel
theorem dL_law_565 : decode cL_law 565 = .ok (.aload_n 0, 1) := by decide +kernel
theorem dL_law_566 : decode cL_law 566 = .ok (.iload 4, 2) := by decide +kernel
theorem dL_law_568 : decode cL_law 568 = .ok (.iconst 1, 1) := by decide +kernel
theorem dL_law_569 : decode cL_law 569 = .ok (.iadd, 1) := by decide +kernel
theorem dL_law_570 : decode cL_law 570 = .ok (.iaload, 1) := by decide +kernel
theorem dL_law_571 : decode cL_law 571 = .ok (.aload_n 0, 1) := by decide +kernel
theorem dL_law_572 : decode cL_law 572 = .ok (.iload 4, 2) := by decide +kernel
theorem dL_law_574 : decode cL_law 574 = .ok (.iconst 2, 1) := by decide +kernel
theorem dL_law_575 : decode cL_law 575 = .ok (.iadd, 1) := by decide +kernel
theorem dL_law_576 : decode cL_law 576 = .ok (.iaload, 1) := by decide +kernel
theorem dL_law_577 : decode cL_law 577 = .ok (.invokevirtual 110, 3) := by decide +kernel
theorem dL_law_580 : decode cL_law 580 = .ok (.istore 6, 2) := by decide +kernel
theorem dL_law_582 : decode cL_law 582 = .ok (.aload_n 2, 1) := by decide +kernel
theorem dL_law_583 : decode cL_law 583 = .ok (.invokevirtual 83, 3) := by decide +kernel
theorem dL_law_586 : decode cL_law 586 = .ok (.iload 5, 2) := by decide +kernel
theorem dL_law_588 : decode cL_law 588 = .ok (.if_icmp .eq 5, 3) := by decide +kernel
theorem dL_law_591 : decode cL_law 591 = .ok (.iconst 0, 1) := by decide +kernel
theorem dL_law_592 : decode cL_law 592 = .ok (.ireturn, 1) := by decide +kernel
theorem dL_law_593 : decode cL_law 593 = .ok (.iload 5, 2) := by decide +kernel
theorem dL_law_595 : decode cL_law 595 = .ok (.ifCond .ne 15, 3) := by decide +kernel
theorem dL_law_598 : decode cL_law 598 = .ok (.aload_n 3, 1) := by decide +kernel
theorem dL_law_599 : decode cL_law 599 = .ok (.iconst 0, 1) := by decide +kernel
theorem dL_law_600 : decode cL_law 600 = .ok (.laload, 1) := by decide +kernel
theorem dL_law_601 : decode cL_law 601 = .ok (.iload 6, 2) := by decide +kernel
theorem dL_law_603 : decode cL_law 603 = .ok (.i2l, 1) := by decide +kernel
theorem dL_law_604 : decode cL_law 604 = .ok (.lcmp, 1) := by decide +kernel
theorem dL_law_605 : decode cL_law 605 = .ok (.ifCond .eq 5, 3) := by decide +kernel
theorem dL_law_608 : decode cL_law 608 = .ok (.iconst 0, 1) := by decide +kernel
theorem dL_law_609 : decode cL_law 609 = .ok (.ireturn, 1) := by decide +kernel
theorem dL_law_610 : decode cL_law 610 = .ok (.goto 724, 3) := by decide +kernel
theorem dL_law_613 : decode cL_law 613 = .ok (.aload_n 1, 1) := by decide +kernel
theorem dL_law_614 : decode cL_law 614 = .ok (.aload_n 0, 1) := by decide +kernel
theorem dL_law_615 : decode cL_law 615 = .ok (.iload 4, 2) := by decide +kernel
theorem dL_law_617 : decode cL_law 617 = .ok (.iconst 1, 1) := by decide +kernel
theorem dL_law_618 : decode cL_law 618 = .ok (.iadd, 1) := by decide +kernel
theorem dL_law_619 : decode cL_law 619 = .ok (.iaload, 1) := by decide +kernel
theorem dL_law_620 : decode cL_law 620 = .ok (.aload_n 0, 1) := by decide +kernel
theorem dL_law_621 : decode cL_law 621 = .ok (.iload 4, 2) := by decide +kernel
theorem dL_law_623 : decode cL_law 623 = .ok (.iconst 2, 1) := by decide +kernel
theorem dL_law_624 : decode cL_law 624 = .ok (.iadd, 1) := by decide +kernel
theorem dL_law_625 : decode cL_law 625 = .ok (.iaload, 1) := by decide +kernel
theorem dL_law_626 : decode cL_law 626 = .ok (.aload_n 3, 1) := by decide +kernel
theorem dL_law_627 : decode cL_law 627 = .ok (.invokestatic 111, 3) := by decide +kernel
theorem dL_law_630 : decode cL_law 630 = .ok (.istore 5, 2) := by decide +kernel
theorem dL_law_632 : decode cL_law 632 = .ok (.aload_n 2, 1) := by decide +kernel
theorem dL_law_633 : decode cL_law 633 = .ok (.aload_n 0, 1) := by decide +kernel
theorem dL_law_634 : decode cL_law 634 = .ok (.iload 4, 2) := by decide +kernel
theorem dL_law_636 : decode cL_law 636 = .ok (.iconst 1, 1) := by decide +kernel
theorem dL_law_637 : decode cL_law 637 = .ok (.iadd, 1) := by decide +kernel
theorem dL_law_638 : decode cL_law 638 = .ok (.iaload, 1) := by decide +kernel
theorem dL_law_639 : decode cL_law 639 = .ok (.aload_n 0, 1) := by decide +kernel
theorem dL_law_640 : decode cL_law 640 = .ok (.iload 4, 2) := by decide +kernel
theorem dL_law_642 : decode cL_law 642 = .ok (.iconst 2, 1) := by decide +kernel
theorem dL_law_643 : decode cL_law 643 = .ok (.iadd, 1) := by decide +kernel
theorem dL_law_644 : decode cL_law 644 = .ok (.iaload, 1) := by decide +kernel
theorem dL_law_645 : decode cL_law 645 = .ok (.invokevirtual 113, 3) := by decide +kernel
theorem dL_law_648 : decode cL_law 648 = .ok (.istore 6, 2) := by decide +kernel
theorem dL_law_650 : decode cL_law 650 = .ok (.aload_n 2, 1) := by decide +kernel
theorem dL_law_651 : decode cL_law 651 = .ok (.invokevirtual 83, 3) := by decide +kernel
theorem dL_law_654 : decode cL_law 654 = .ok (.iload 5, 2) := by decide +kernel
theorem dL_law_656 : decode cL_law 656 = .ok (.if_icmp .eq 5, 3) := by decide +kernel
theorem dL_law_659 : decode cL_law 659 = .ok (.iconst 0, 1) := by decide +kernel
theorem dL_law_660 : decode cL_law 660 = .ok (.ireturn, 1) := by decide +kernel
theorem dL_law_661 : decode cL_law 661 = .ok (.iload 5, 2) := by decide +kernel
theorem dL_law_663 : decode cL_law 663 = .ok (.ifCond .ne 15, 3) := by decide +kernel
theorem dL_law_666 : decode cL_law 666 = .ok (.aload_n 3, 1) := by decide +kernel
theorem dL_law_667 : decode cL_law 667 = .ok (.iconst 0, 1) := by decide +kernel
theorem dL_law_668 : decode cL_law 668 = .ok (.laload, 1) := by decide +kernel
theorem dL_law_669 : decode cL_law 669 = .ok (.iload 6, 2) := by decide +kernel
theorem dL_law_671 : decode cL_law 671 = .ok (.i2l, 1) := by decide +kernel
theorem dL_law_672 : decode cL_law 672 = .ok (.lcmp, 1) := by decide +kernel
theorem dL_law_673 : decode cL_law 673 = .ok (.ifCond .eq 5, 3) := by decide +kernel
theorem dL_law_676 : decode cL_law 676 = .ok (.iconst 0, 1) := by decide +kernel
theorem dL_law_677 : decode cL_law 677 = .ok (.ireturn, 1) := by decide +kernel
theorem dL_law_678 : decode cL_law 678 = .ok (.goto 656, 3) := by decide +kernel
theorem dL_law_681 : decode cL_law 681 = .ok (.aload_n 1, 1) := by decide +kernel
theorem dL_law_682 : decode cL_law 682 = .ok (.aload_n 0, 1) := by decide +kernel
theorem dL_law_683 : decode cL_law 683 = .ok (.iload 4, 2) := by decide +kernel
theorem dL_law_685 : decode cL_law 685 = .ok (.iconst 1, 1) := by decide +kernel
theorem dL_law_686 : decode cL_law 686 = .ok (.iadd, 1) := by decide +kernel
theorem dL_law_687 : decode cL_law 687 = .ok (.iaload, 1) := by decide +kernel
theorem dL_law_688 : decode cL_law 688 = .ok (.aload_n 3, 1) := by decide +kernel
theorem dL_law_689 : decode cL_law 689 = .ok (.invokestatic 114, 3) := by decide +kernel
theorem dL_law_692 : decode cL_law 692 = .ok (.istore 5, 2) := by decide +kernel
theorem dL_law_694 : decode cL_law 694 = .ok (.aload_n 2, 1) := by decide +kernel
theorem dL_law_695 : decode cL_law 695 = .ok (.aload_n 0, 1) := by decide +kernel
theorem dL_law_696 : decode cL_law 696 = .ok (.iload 4, 2) := by decide +kernel
theorem dL_law_698 : decode cL_law 698 = .ok (.iconst 1, 1) := by decide +kernel
theorem dL_law_699 : decode cL_law 699 = .ok (.iadd, 1) := by decide +kernel
theorem dL_law_700 : decode cL_law 700 = .ok (.iaload, 1) := by decide +kernel
theorem dL_law_701 : decode cL_law 701 = .ok (.invokevirtual 116, 3) := by decide +kernel
theorem dL_law_704 : decode cL_law 704 = .ok (.istore 6, 2) := by decide +kernel
theorem dL_law_706 : decode cL_law 706 = .ok (.aload_n 2, 1) := by decide +kernel
theorem dL_law_707 : decode cL_law 707 = .ok (.invokevirtual 83, 3) := by decide +kernel
theorem dL_law_710 : decode cL_law 710 = .ok (.iload 5, 2) := by decide +kernel
theorem dL_law_712 : decode cL_law 712 = .ok (.if_icmp .eq 5, 3) := by decide +kernel
theorem dL_law_715 : decode cL_law 715 = .ok (.iconst 0, 1) := by decide +kernel
theorem dL_law_716 : decode cL_law 716 = .ok (.ireturn, 1) := by decide +kernel
theorem dL_law_717 : decode cL_law 717 = .ok (.iload 5, 2) := by decide +kernel
theorem dL_law_719 : decode cL_law 719 = .ok (.ifCond .ne 15, 3) := by decide +kernel
theorem dL_law_722 : decode cL_law 722 = .ok (.aload_n 3, 1) := by decide +kernel
theorem dL_law_723 : decode cL_law 723 = .ok (.iconst 0, 1) := by decide +kernel
theorem dL_law_724 : decode cL_law 724 = .ok (.laload, 1) := by decide +kernel
theorem dL_law_725 : decode cL_law 725 = .ok (.iload 6, 2) := by decide +kernel
theorem dL_law_727 : decode cL_law 727 = .ok (.i2l, 1) := by decide +kernel
theorem dL_law_728 : decode cL_law 728 = .ok (.lcmp, 1) := by decide +kernel
theorem dL_law_729 : decode cL_law 729 = .ok (.ifCond .eq 5, 3) := by decide +kernel
theorem dL_law_732 : decode cL_law 732 = .ok (.iconst 0, 1) := by decide +kernel
theorem dL_law_733 : decode cL_law 733 = .ok (.ireturn, 1) := by decide +kernel
theorem dL_law_734 : decode cL_law 734 = .ok (.goto 600, 3) := by decide +kernel
theorem dL_law_737 : decode cL_law 737 = .ok (.aload_n 1, 1) := by decide +kernel
theorem dL_law_738 : decode cL_law 738 = .ok (.aload_n 0, 1) := by decide +kernel
theorem dL_law_739 : decode cL_law 739 = .ok (.iload 4, 2) := by decide +kernel
theorem dL_law_741 : decode cL_law 741 = .ok (.iconst 1, 1) := by decide +kernel
theorem dL_law_742 : decode cL_law 742 = .ok (.iadd, 1) := by decide +kernel
theorem dL_law_743 : decode cL_law 743 = .ok (.iaload, 1) := by decide +kernel
theorem dL_law_744 : decode cL_law 744 = .ok (.aload_n 3, 1) := by decide +kernel
theorem dL_law_745 : decode cL_law 745 = .ok (.invokestatic 117, 3) := by decide +kernel
theorem dL_law_748 : decode cL_law 748 = .ok (.istore 5, 2) := by decide +kernel
theorem dL_law_750 : decode cL_law 750 = .ok (.aload_n 2, 1) := by decide +kernel
theorem dL_law_751 : decode cL_law 751 = .ok (.aload_n 0, 1) := by decide +kernel
theorem dL_law_752 : decode cL_law 752 = .ok (.iload 4, 2) := by decide +kernel
theorem dL_law_754 : decode cL_law 754 = .ok (.iconst 1, 1) := by decide +kernel
theorem dL_law_755 : decode cL_law 755 = .ok (.iadd, 1) := by decide +kernel
theorem dL_law_756 : decode cL_law 756 = .ok (.iaload, 1) := by decide +kernel
theorem dL_law_757 : decode cL_law 757 = .ok (.invokevirtual 119, 3) := by decide +kernel
theorem dL_law_760 : decode cL_law 760 = .ok (.istore 6, 2) := by decide +kernel
theorem dL_law_762 : decode cL_law 762 = .ok (.aload_n 2, 1) := by decide +kernel
theorem dL_law_763 : decode cL_law 763 = .ok (.invokevirtual 83, 3) := by decide +kernel
theorem dL_law_766 : decode cL_law 766 = .ok (.iload 5, 2) := by decide +kernel
theorem dL_law_768 : decode cL_law 768 = .ok (.if_icmp .eq 5, 3) := by decide +kernel
theorem dL_law_771 : decode cL_law 771 = .ok (.iconst 0, 1) := by decide +kernel
theorem dL_law_772 : decode cL_law 772 = .ok (.ireturn, 1) := by decide +kernel
theorem dL_law_773 : decode cL_law 773 = .ok (.iload 5, 2) := by decide +kernel
theorem dL_law_775 : decode cL_law 775 = .ok (.ifCond .ne 15, 3) := by decide +kernel
theorem dL_law_778 : decode cL_law 778 = .ok (.aload_n 3, 1) := by decide +kernel
theorem dL_law_779 : decode cL_law 779 = .ok (.iconst 0, 1) := by decide +kernel
theorem dL_law_780 : decode cL_law 780 = .ok (.laload, 1) := by decide +kernel
theorem dL_law_781 : decode cL_law 781 = .ok (.iload 6, 2) := by decide +kernel
theorem dL_law_783 : decode cL_law 783 = .ok (.i2l, 1) := by decide +kernel
theorem dL_law_784 : decode cL_law 784 = .ok (.lcmp, 1) := by decide +kernel
theorem dL_law_785 : decode cL_law 785 = .ok (.ifCond .eq 5, 3) := by decide +kernel
theorem dL_law_788 : decode cL_law 788 = .ok (.iconst 0, 1) := by decide +kernel
theorem dL_law_789 : decode cL_law 789 = .ok (.ireturn, 1) := by decide +kernel
theorem dL_law_790 : decode cL_law 790 = .ok (.goto 544, 3) := by decide +kernel
theorem dL_law_793 : decode cL_law 793 = .ok (.aload_n 1, 1) := by decide +kernel
theorem dL_law_794 : decode cL_law 794 = .ok (.invokevirtual 120, 3) := by decide +kernel
theorem dL_law_797 : decode cL_law 797 = .ok (.aload_n 2, 1) := by decide +kernel
theorem dL_law_798 : decode cL_law 798 = .ok (.invokevirtual 123, 3) := by decide +kernel
theorem dL_law_801 : decode cL_law 801 = .ok (.if_icmp .eq 533, 3) := by decide +kernel
theorem dL_law_804 : decode cL_law 804 = .ok (.iconst 0, 1) := by decide +kernel
theorem dL_law_805 : decode cL_law 805 = .ok (.ireturn, 1) := by decide +kernel
theorem dL_law_806 : decode cL_law 806 = .ok (.aload_n 1, 1) := by decide +kernel
theorem dL_law_807 : decode cL_law 807 = .ok (.invokevirtual 124, 3) := by decide +kernel
theorem dL_law_810 : decode cL_law 810 = .ok (.aload_n 2, 1) := by decide +kernel
theorem dL_law_811 : decode cL_law 811 = .ok (.invokevirtual 127, 3) := by decide +kernel
theorem dL_law_814 : decode cL_law 814 = .ok (.if_icmp .eq 520, 3) := by decide +kernel
theorem dL_law_817 : decode cL_law 817 = .ok (.iconst 0, 1) := by decide +kernel
theorem dL_law_818 : decode cL_law 818 = .ok (.ireturn, 1) := by decide +kernel
theorem dL_law_819 : decode cL_law 819 = .ok (.aload_n 1, 1) := by decide +kernel
theorem dL_law_820 : decode cL_law 820 = .ok (.aload_n 0, 1) := by decide +kernel
theorem dL_law_821 : decode cL_law 821 = .ok (.iload 4, 2) := by decide +kernel
theorem dL_law_823 : decode cL_law 823 = .ok (.iconst 1, 1) := by decide +kernel
theorem dL_law_824 : decode cL_law 824 = .ok (.iadd, 1) := by decide +kernel
theorem dL_law_825 : decode cL_law 825 = .ok (.iaload, 1) := by decide +kernel
theorem dL_law_826 : decode cL_law 826 = .ok (.aload_n 3, 1) := by decide +kernel
theorem dL_law_827 : decode cL_law 827 = .ok (.invokestatic 128, 3) := by decide +kernel
theorem dL_law_830 : decode cL_law 830 = .ok (.istore 5, 2) := by decide +kernel
theorem dL_law_832 : decode cL_law 832 = .ok (.aload_n 2, 1) := by decide +kernel
theorem dL_law_833 : decode cL_law 833 = .ok (.aload_n 0, 1) := by decide +kernel
theorem dL_law_834 : decode cL_law 834 = .ok (.iload 4, 2) := by decide +kernel
theorem dL_law_836 : decode cL_law 836 = .ok (.iconst 1, 1) := by decide +kernel
theorem dL_law_837 : decode cL_law 837 = .ok (.iadd, 1) := by decide +kernel
theorem dL_law_838 : decode cL_law 838 = .ok (.iaload, 1) := by decide +kernel
theorem dL_law_839 : decode cL_law 839 = .ok (.invokevirtual 130, 3) := by decide +kernel
theorem dL_law_842 : decode cL_law 842 = .ok (.istore 6, 2) := by decide +kernel
theorem dL_law_844 : decode cL_law 844 = .ok (.aload_n 2, 1) := by decide +kernel
theorem dL_law_845 : decode cL_law 845 = .ok (.invokevirtual 83, 3) := by decide +kernel
theorem dL_law_848 : decode cL_law 848 = .ok (.iload 5, 2) := by decide +kernel
theorem dL_law_850 : decode cL_law 850 = .ok (.if_icmp .eq 5, 3) := by decide +kernel
theorem dL_law_853 : decode cL_law 853 = .ok (.iconst 0, 1) := by decide +kernel
theorem dL_law_854 : decode cL_law 854 = .ok (.ireturn, 1) := by decide +kernel
theorem dL_law_855 : decode cL_law 855 = .ok (.iload 5, 2) := by decide +kernel
theorem dL_law_857 : decode cL_law 857 = .ok (.ifCond .ne 15, 3) := by decide +kernel
theorem dL_law_860 : decode cL_law 860 = .ok (.aload_n 3, 1) := by decide +kernel
theorem dL_law_861 : decode cL_law 861 = .ok (.iconst 0, 1) := by decide +kernel
theorem dL_law_862 : decode cL_law 862 = .ok (.laload, 1) := by decide +kernel
theorem dL_law_863 : decode cL_law 863 = .ok (.iload 6, 2) := by decide +kernel
theorem dL_law_865 : decode cL_law 865 = .ok (.i2l, 1) := by decide +kernel
theorem dL_law_866 : decode cL_law 866 = .ok (.lcmp, 1) := by decide +kernel
theorem dL_law_867 : decode cL_law 867 = .ok (.ifCond .eq 5, 3) := by decide +kernel
theorem dL_law_870 : decode cL_law 870 = .ok (.iconst 0, 1) := by decide +kernel
theorem dL_law_871 : decode cL_law 871 = .ok (.ireturn, 1) := by decide +kernel
theorem dL_law_872 : decode cL_law 872 = .ok (.goto 462, 3) := by decide +kernel
theorem dL_law_875 : decode cL_law 875 = .ok (.aload_n 1, 1) := by decide +kernel
theorem dL_law_876 : decode cL_law 876 = .ok (.aload_n 0, 1) := by decide +kernel
theorem dL_law_877 : decode cL_law 877 = .ok (.iload 4, 2) := by decide +kernel
theorem dL_law_879 : decode cL_law 879 = .ok (.iconst 1, 1) := by decide +kernel
theorem dL_law_880 : decode cL_law 880 = .ok (.iadd, 1) := by decide +kernel
theorem dL_law_881 : decode cL_law 881 = .ok (.iaload, 1) := by decide +kernel
theorem dL_law_882 : decode cL_law 882 = .ok (.aload_n 3, 1) := by decide +kernel
theorem dL_law_883 : decode cL_law 883 = .ok (.invokestatic 131, 3) := by decide +kernel
theorem dL_law_886 : decode cL_law 886 = .ok (.istore 5, 2) := by decide +kernel
theorem dL_law_888 : decode cL_law 888 = .ok (.aload_n 2, 1) := by decide +kernel
theorem dL_law_889 : decode cL_law 889 = .ok (.aload_n 0, 1) := by decide +kernel
theorem dL_law_890 : decode cL_law 890 = .ok (.iload 4, 2) := by decide +kernel
theorem dL_law_892 : decode cL_law 892 = .ok (.iconst 1, 1) := by decide +kernel
theorem dL_law_893 : decode cL_law 893 = .ok (.iadd, 1) := by decide +kernel
theorem dL_law_894 : decode cL_law 894 = .ok (.iaload, 1) := by decide +kernel
theorem dL_law_895 : decode cL_law 895 = .ok (.invokevirtual 133, 3) := by decide +kernel
theorem dL_law_898 : decode cL_law 898 = .ok (.istore 6, 2) := by decide +kernel
theorem dL_law_900 : decode cL_law 900 = .ok (.aload_n 2, 1) := by decide +kernel
theorem dL_law_901 : decode cL_law 901 = .ok (.invokevirtual 83, 3) := by decide +kernel
theorem dL_law_904 : decode cL_law 904 = .ok (.iload 5, 2) := by decide +kernel
theorem dL_law_906 : decode cL_law 906 = .ok (.if_icmp .eq 5, 3) := by decide +kernel
theorem dL_law_909 : decode cL_law 909 = .ok (.iconst 0, 1) := by decide +kernel
theorem dL_law_910 : decode cL_law 910 = .ok (.ireturn, 1) := by decide +kernel
theorem dL_law_911 : decode cL_law 911 = .ok (.iload 5, 2) := by decide +kernel
theorem dL_law_913 : decode cL_law 913 = .ok (.ifCond .ne 15, 3) := by decide +kernel
theorem dL_law_916 : decode cL_law 916 = .ok (.aload_n 3, 1) := by decide +kernel
theorem dL_law_917 : decode cL_law 917 = .ok (.iconst 0, 1) := by decide +kernel
theorem dL_law_918 : decode cL_law 918 = .ok (.laload, 1) := by decide +kernel
theorem dL_law_919 : decode cL_law 919 = .ok (.iload 6, 2) := by decide +kernel
theorem dL_law_921 : decode cL_law 921 = .ok (.i2l, 1) := by decide +kernel
theorem dL_law_922 : decode cL_law 922 = .ok (.lcmp, 1) := by decide +kernel
theorem dL_law_923 : decode cL_law 923 = .ok (.ifCond .eq 5, 3) := by decide +kernel
theorem dL_law_926 : decode cL_law 926 = .ok (.iconst 0, 1) := by decide +kernel
theorem dL_law_927 : decode cL_law 927 = .ok (.ireturn, 1) := by decide +kernel
theorem dL_law_928 : decode cL_law 928 = .ok (.goto 406, 3) := by decide +kernel
theorem dL_law_931 : decode cL_law 931 = .ok (.aload_n 1, 1) := by decide +kernel
theorem dL_law_932 : decode cL_law 932 = .ok (.aload_n 0, 1) := by decide +kernel
theorem dL_law_933 : decode cL_law 933 = .ok (.iload 4, 2) := by decide +kernel
theorem dL_law_935 : decode cL_law 935 = .ok (.iconst 1, 1) := by decide +kernel
theorem dL_law_936 : decode cL_law 936 = .ok (.iadd, 1) := by decide +kernel
theorem dL_law_937 : decode cL_law 937 = .ok (.iaload, 1) := by decide +kernel
theorem dL_law_938 : decode cL_law 938 = .ok (.aload_n 3, 1) := by decide +kernel
theorem dL_law_939 : decode cL_law 939 = .ok (.invokestatic 134, 3) := by decide +kernel
theorem dL_law_942 : decode cL_law 942 = .ok (.istore 5, 2) := by decide +kernel
theorem dL_law_944 : decode cL_law 944 = .ok (.aload_n 2, 1) := by decide +kernel
theorem dL_law_945 : decode cL_law 945 = .ok (.aload_n 0, 1) := by decide +kernel
theorem dL_law_946 : decode cL_law 946 = .ok (.iload 4, 2) := by decide +kernel
theorem dL_law_948 : decode cL_law 948 = .ok (.iconst 1, 1) := by decide +kernel
theorem dL_law_949 : decode cL_law 949 = .ok (.iadd, 1) := by decide +kernel
theorem dL_law_950 : decode cL_law 950 = .ok (.iaload, 1) := by decide +kernel
theorem dL_law_951 : decode cL_law 951 = .ok (.invokevirtual 136, 3) := by decide +kernel
theorem dL_law_954 : decode cL_law 954 = .ok (.istore 6, 2) := by decide +kernel
theorem dL_law_956 : decode cL_law 956 = .ok (.aload_n 2, 1) := by decide +kernel
theorem dL_law_957 : decode cL_law 957 = .ok (.invokevirtual 83, 3) := by decide +kernel
theorem dL_law_960 : decode cL_law 960 = .ok (.iload 5, 2) := by decide +kernel
theorem dL_law_962 : decode cL_law 962 = .ok (.if_icmp .eq 5, 3) := by decide +kernel
theorem dL_law_965 : decode cL_law 965 = .ok (.iconst 0, 1) := by decide +kernel
theorem dL_law_966 : decode cL_law 966 = .ok (.ireturn, 1) := by decide +kernel
theorem dL_law_967 : decode cL_law 967 = .ok (.iload 5, 2) := by decide +kernel
theorem dL_law_969 : decode cL_law 969 = .ok (.ifCond .ne 15, 3) := by decide +kernel
theorem dL_law_972 : decode cL_law 972 = .ok (.aload_n 3, 1) := by decide +kernel
theorem dL_law_973 : decode cL_law 973 = .ok (.iconst 0, 1) := by decide +kernel
theorem dL_law_974 : decode cL_law 974 = .ok (.laload, 1) := by decide +kernel
theorem dL_law_975 : decode cL_law 975 = .ok (.iload 6, 2) := by decide +kernel
theorem dL_law_977 : decode cL_law 977 = .ok (.i2l, 1) := by decide +kernel
theorem dL_law_978 : decode cL_law 978 = .ok (.lcmp, 1) := by decide +kernel
theorem dL_law_979 : decode cL_law 979 = .ok (.ifCond .eq 5, 3) := by decide +kernel
theorem dL_law_982 : decode cL_law 982 = .ok (.iconst 0, 1) := by decide +kernel
theorem dL_law_983 : decode cL_law 983 = .ok (.ireturn, 1) := by decide +kernel
theorem dL_law_984 : decode cL_law 984 = .ok (.goto 350, 3) := by decide +kernel
theorem dL_law_987 : decode cL_law 987 = .ok (.aload_n 1, 1) := by decide +kernel
theorem dL_law_988 : decode cL_law 988 = .ok (.aload_n 0, 1) := by decide +kernel
theorem dL_law_989 : decode cL_law 989 = .ok (.iload 4, 2) := by decide +kernel
theorem dL_law_991 : decode cL_law 991 = .ok (.iconst 1, 1) := by decide +kernel
theorem dL_law_992 : decode cL_law 992 = .ok (.iadd, 1) := by decide +kernel
theorem dL_law_993 : decode cL_law 993 = .ok (.iaload, 1) := by decide +kernel
theorem dL_law_994 : decode cL_law 994 = .ok (.aload_n 3, 1) := by decide +kernel
theorem dL_law_995 : decode cL_law 995 = .ok (.invokestatic 137, 3) := by decide +kernel
theorem dL_law_998 : decode cL_law 998 = .ok (.istore 5, 2) := by decide +kernel
theorem dL_law_1000 : decode cL_law 1000 = .ok (.aload_n 2, 1) := by decide +kernel
theorem dL_law_1001 : decode cL_law 1001 = .ok (.aload_n 0, 1) := by decide +kernel
theorem dL_law_1002 : decode cL_law 1002 = .ok (.iload 4, 2) := by decide +kernel
theorem dL_law_1004 : decode cL_law 1004 = .ok (.iconst 1, 1) := by decide +kernel
theorem dL_law_1005 : decode cL_law 1005 = .ok (.iadd, 1) := by decide +kernel
theorem dL_law_1006 : decode cL_law 1006 = .ok (.iaload, 1) := by decide +kernel
theorem dL_law_1007 : decode cL_law 1007 = .ok (.invokevirtual 139, 3) := by decide +kernel
theorem dL_law_1010 : decode cL_law 1010 = .ok (.istore 6, 2) := by decide +kernel
theorem dL_law_1012 : decode cL_law 1012 = .ok (.aload_n 2, 1) := by decide +kernel
theorem dL_law_1013 : decode cL_law 1013 = .ok (.invokevirtual 83, 3) := by decide +kernel
theorem dL_law_1016 : decode cL_law 1016 = .ok (.iload 5, 2) := by decide +kernel
theorem dL_law_1018 : decode cL_law 1018 = .ok (.if_icmp .eq 5, 3) := by decide +kernel
theorem dL_law_1021 : decode cL_law 1021 = .ok (.iconst 0, 1) := by decide +kernel
theorem dL_law_1022 : decode cL_law 1022 = .ok (.ireturn, 1) := by decide +kernel
theorem dL_law_1023 : decode cL_law 1023 = .ok (.iload 5, 2) := by decide +kernel
theorem dL_law_1025 : decode cL_law 1025 = .ok (.ifCond .ne 15, 3) := by decide +kernel
theorem dL_law_1028 : decode cL_law 1028 = .ok (.aload_n 3, 1) := by decide +kernel
theorem dL_law_1029 : decode cL_law 1029 = .ok (.iconst 0, 1) := by decide +kernel
theorem dL_law_1030 : decode cL_law 1030 = .ok (.laload, 1) := by decide +kernel
theorem dL_law_1031 : decode cL_law 1031 = .ok (.iload 6, 2) := by decide +kernel
theorem dL_law_1033 : decode cL_law 1033 = .ok (.i2l, 1) := by decide +kernel
theorem dL_law_1034 : decode cL_law 1034 = .ok (.lcmp, 1) := by decide +kernel
theorem dL_law_1035 : decode cL_law 1035 = .ok (.ifCond .eq 5, 3) := by decide +kernel
theorem dL_law_1038 : decode cL_law 1038 = .ok (.iconst 0, 1) := by decide +kernel
theorem dL_law_1039 : decode cL_law 1039 = .ok (.ireturn, 1) := by decide +kernel
theorem dL_law_1040 : decode cL_law 1040 = .ok (.goto 294, 3) := by decide +kernel
theorem dL_law_1043 : decode cL_law 1043 = .ok (.aload_n 1, 1) := by decide +kernel
theorem dL_law_1044 : decode cL_law 1044 = .ok (.aload_n 0, 1) := by decide +kernel
theorem dL_law_1045 : decode cL_law 1045 = .ok (.iload 4, 2) := by decide +kernel
theorem dL_law_1047 : decode cL_law 1047 = .ok (.iconst 1, 1) := by decide +kernel
theorem dL_law_1048 : decode cL_law 1048 = .ok (.iadd, 1) := by decide +kernel
theorem dL_law_1049 : decode cL_law 1049 = .ok (.iaload, 1) := by decide +kernel
theorem dL_law_1050 : decode cL_law 1050 = .ok (.aload_n 0, 1) := by decide +kernel
theorem dL_law_1051 : decode cL_law 1051 = .ok (.iload 4, 2) := by decide +kernel
theorem dL_law_1053 : decode cL_law 1053 = .ok (.iconst 2, 1) := by decide +kernel
theorem dL_law_1054 : decode cL_law 1054 = .ok (.iadd, 1) := by decide +kernel
theorem dL_law_1055 : decode cL_law 1055 = .ok (.iaload, 1) := by decide +kernel
theorem dL_law_1056 : decode cL_law 1056 = .ok (.aload_n 0, 1) := by decide +kernel
theorem dL_law_1057 : decode cL_law 1057 = .ok (.iload 4, 2) := by decide +kernel
theorem dL_law_1059 : decode cL_law 1059 = .ok (.iconst 3, 1) := by decide +kernel
theorem dL_law_1060 : decode cL_law 1060 = .ok (.iadd, 1) := by decide +kernel
theorem dL_law_1061 : decode cL_law 1061 = .ok (.iaload, 1) := by decide +kernel
theorem dL_law_1062 : decode cL_law 1062 = .ok (.aload_n 3, 1) := by decide +kernel
theorem dL_law_1063 : decode cL_law 1063 = .ok (.invokestatic 140, 3) := by decide +kernel
theorem dL_law_1066 : decode cL_law 1066 = .ok (.istore 5, 2) := by decide +kernel
theorem dL_law_1068 : decode cL_law 1068 = .ok (.aload_n 2, 1) := by decide +kernel
theorem dL_law_1069 : decode cL_law 1069 = .ok (.aload_n 0, 1) := by decide +kernel
theorem dL_law_1070 : decode cL_law 1070 = .ok (.iload 4, 2) := by decide +kernel
theorem dL_law_1072 : decode cL_law 1072 = .ok (.iconst 1, 1) := by decide +kernel
theorem dL_law_1073 : decode cL_law 1073 = .ok (.iadd, 1) := by decide +kernel
theorem dL_law_1074 : decode cL_law 1074 = .ok (.iaload, 1) := by decide +kernel
theorem dL_law_1075 : decode cL_law 1075 = .ok (.aload_n 0, 1) := by decide +kernel
theorem dL_law_1076 : decode cL_law 1076 = .ok (.iload 4, 2) := by decide +kernel
theorem dL_law_1078 : decode cL_law 1078 = .ok (.iconst 2, 1) := by decide +kernel
theorem dL_law_1079 : decode cL_law 1079 = .ok (.iadd, 1) := by decide +kernel
theorem dL_law_1080 : decode cL_law 1080 = .ok (.iaload, 1) := by decide +kernel
theorem dL_law_1081 : decode cL_law 1081 = .ok (.aload_n 0, 1) := by decide +kernel
theorem dL_law_1082 : decode cL_law 1082 = .ok (.iload 4, 2) := by decide +kernel
theorem dL_law_1084 : decode cL_law 1084 = .ok (.iconst 3, 1) := by decide +kernel
theorem dL_law_1085 : decode cL_law 1085 = .ok (.iadd, 1) := by decide +kernel
theorem dL_law_1086 : decode cL_law 1086 = .ok (.iaload, 1) := by decide +kernel
theorem dL_law_1087 : decode cL_law 1087 = .ok (.invokevirtual 142, 3) := by decide +kernel
theorem dL_law_1090 : decode cL_law 1090 = .ok (.istore 6, 2) := by decide +kernel
theorem dL_law_1092 : decode cL_law 1092 = .ok (.aload_n 2, 1) := by decide +kernel
theorem dL_law_1093 : decode cL_law 1093 = .ok (.invokevirtual 83, 3) := by decide +kernel
theorem dL_law_1096 : decode cL_law 1096 = .ok (.iload 5, 2) := by decide +kernel
theorem dL_law_1098 : decode cL_law 1098 = .ok (.if_icmp .eq 5, 3) := by decide +kernel
theorem dL_law_1101 : decode cL_law 1101 = .ok (.iconst 0, 1) := by decide +kernel
theorem dL_law_1102 : decode cL_law 1102 = .ok (.ireturn, 1) := by decide +kernel
theorem dL_law_1103 : decode cL_law 1103 = .ok (.iload 5, 2) := by decide +kernel
theorem dL_law_1105 : decode cL_law 1105 = .ok (.ifCond .ne 22, 3) := by decide +kernel
theorem dL_law_1108 : decode cL_law 1108 = .ok (.aload_n 3, 1) := by decide +kernel
theorem dL_law_1109 : decode cL_law 1109 = .ok (.iconst 0, 1) := by decide +kernel
theorem dL_law_1110 : decode cL_law 1110 = .ok (.laload, 1) := by decide +kernel
theorem dL_law_1111 : decode cL_law 1111 = .ok (.iload 6, 2) := by decide +kernel
theorem dL_law_1113 : decode cL_law 1113 = .ok (.ifCond .eq 7, 3) := by decide +kernel
theorem dL_law_1116 : decode cL_law 1116 = .ok (.lconst 1, 1) := by decide +kernel
theorem dL_law_1117 : decode cL_law 1117 = .ok (.goto 4, 3) := by decide +kernel
theorem dL_law_1120 : decode cL_law 1120 = .ok (.lconst 0, 1) := by decide +kernel
theorem dL_law_1121 : decode cL_law 1121 = .ok (.lcmp, 1) := by decide +kernel
theorem dL_law_1122 : decode cL_law 1122 = .ok (.ifCond .eq 5, 3) := by decide +kernel
theorem dL_law_1125 : decode cL_law 1125 = .ok (.iconst 0, 1) := by decide +kernel
theorem dL_law_1126 : decode cL_law 1126 = .ok (.ireturn, 1) := by decide +kernel
theorem dL_law_1127 : decode cL_law 1127 = .ok (.goto 207, 3) := by decide +kernel
theorem dL_law_1130 : decode cL_law 1130 = .ok (.aload_n 1, 1) := by decide +kernel
theorem dL_law_1131 : decode cL_law 1131 = .ok (.aload_n 0, 1) := by decide +kernel
theorem dL_law_1132 : decode cL_law 1132 = .ok (.iload 4, 2) := by decide +kernel
theorem dL_law_1134 : decode cL_law 1134 = .ok (.iconst 1, 1) := by decide +kernel
theorem dL_law_1135 : decode cL_law 1135 = .ok (.iadd, 1) := by decide +kernel
theorem dL_law_1136 : decode cL_law 1136 = .ok (.iaload, 1) := by decide +kernel
theorem dL_law_1137 : decode cL_law 1137 = .ok (.aload_n 0, 1) := by decide +kernel
theorem dL_law_1138 : decode cL_law 1138 = .ok (.iload 4, 2) := by decide +kernel
theorem dL_law_1140 : decode cL_law 1140 = .ok (.iconst 2, 1) := by decide +kernel
theorem dL_law_1141 : decode cL_law 1141 = .ok (.iadd, 1) := by decide +kernel
theorem dL_law_1142 : decode cL_law 1142 = .ok (.iaload, 1) := by decide +kernel
theorem dL_law_1143 : decode cL_law 1143 = .ok (.aload_n 3, 1) := by decide +kernel
theorem dL_law_1144 : decode cL_law 1144 = .ok (.invokestatic 143, 3) := by decide +kernel
theorem dL_law_1147 : decode cL_law 1147 = .ok (.istore 5, 2) := by decide +kernel
theorem dL_law_1149 : decode cL_law 1149 = .ok (.aload_n 2, 1) := by decide +kernel
theorem dL_law_1150 : decode cL_law 1150 = .ok (.aload_n 0, 1) := by decide +kernel
theorem dL_law_1151 : decode cL_law 1151 = .ok (.iload 4, 2) := by decide +kernel
theorem dL_law_1153 : decode cL_law 1153 = .ok (.iconst 1, 1) := by decide +kernel
theorem dL_law_1154 : decode cL_law 1154 = .ok (.iadd, 1) := by decide +kernel
theorem dL_law_1155 : decode cL_law 1155 = .ok (.iaload, 1) := by decide +kernel
theorem dL_law_1156 : decode cL_law 1156 = .ok (.aload_n 0, 1) := by decide +kernel
theorem dL_law_1157 : decode cL_law 1157 = .ok (.iload 4, 2) := by decide +kernel
theorem dL_law_1159 : decode cL_law 1159 = .ok (.iconst 2, 1) := by decide +kernel
theorem dL_law_1160 : decode cL_law 1160 = .ok (.iadd, 1) := by decide +kernel
theorem dL_law_1161 : decode cL_law 1161 = .ok (.iaload, 1) := by decide +kernel
theorem dL_law_1162 : decode cL_law 1162 = .ok (.invokevirtual 145, 3) := by decide +kernel
theorem dL_law_1165 : decode cL_law 1165 = .ok (.istore 6, 2) := by decide +kernel
theorem dL_law_1167 : decode cL_law 1167 = .ok (.aload_n 2, 1) := by decide +kernel
theorem dL_law_1168 : decode cL_law 1168 = .ok (.invokevirtual 83, 3) := by decide +kernel
theorem dL_law_1171 : decode cL_law 1171 = .ok (.iload 5, 2) := by decide +kernel
theorem dL_law_1173 : decode cL_law 1173 = .ok (.if_icmp .eq 5, 3) := by decide +kernel
theorem dL_law_1176 : decode cL_law 1176 = .ok (.iconst 0, 1) := by decide +kernel
theorem dL_law_1177 : decode cL_law 1177 = .ok (.ireturn, 1) := by decide +kernel
theorem dL_law_1178 : decode cL_law 1178 = .ok (.iload 5, 2) := by decide +kernel
theorem dL_law_1180 : decode cL_law 1180 = .ok (.ifCond .ne 15, 3) := by decide +kernel
theorem dL_law_1183 : decode cL_law 1183 = .ok (.aload_n 3, 1) := by decide +kernel
theorem dL_law_1184 : decode cL_law 1184 = .ok (.iconst 0, 1) := by decide +kernel
theorem dL_law_1185 : decode cL_law 1185 = .ok (.laload, 1) := by decide +kernel
theorem dL_law_1186 : decode cL_law 1186 = .ok (.iload 6, 2) := by decide +kernel
theorem dL_law_1188 : decode cL_law 1188 = .ok (.i2l, 1) := by decide +kernel
theorem dL_law_1189 : decode cL_law 1189 = .ok (.lcmp, 1) := by decide +kernel
theorem dL_law_1190 : decode cL_law 1190 = .ok (.ifCond .eq 5, 3) := by decide +kernel
theorem dL_law_1193 : decode cL_law 1193 = .ok (.iconst 0, 1) := by decide +kernel
theorem dL_law_1194 : decode cL_law 1194 = .ok (.ireturn, 1) := by decide +kernel
theorem dL_law_1195 : decode cL_law 1195 = .ok (.goto 139, 3) := by decide +kernel
theorem dL_law_1198 : decode cL_law 1198 = .ok (.aload_n 1, 1) := by decide +kernel
theorem dL_law_1199 : decode cL_law 1199 = .ok (.aload_n 0, 1) := by decide +kernel
theorem dL_law_1200 : decode cL_law 1200 = .ok (.iload 4, 2) := by decide +kernel
theorem dL_law_1202 : decode cL_law 1202 = .ok (.iconst 1, 1) := by decide +kernel
theorem dL_law_1203 : decode cL_law 1203 = .ok (.iadd, 1) := by decide +kernel
theorem dL_law_1204 : decode cL_law 1204 = .ok (.iaload, 1) := by decide +kernel
theorem dL_law_1205 : decode cL_law 1205 = .ok (.aload_n 3, 1) := by decide +kernel
theorem dL_law_1206 : decode cL_law 1206 = .ok (.invokestatic 146, 3) := by decide +kernel
theorem dL_law_1209 : decode cL_law 1209 = .ok (.istore 5, 2) := by decide +kernel
theorem dL_law_1211 : decode cL_law 1211 = .ok (.aload_n 2, 1) := by decide +kernel
theorem dL_law_1212 : decode cL_law 1212 = .ok (.aload_n 0, 1) := by decide +kernel
theorem dL_law_1213 : decode cL_law 1213 = .ok (.iload 4, 2) := by decide +kernel
theorem dL_law_1215 : decode cL_law 1215 = .ok (.iconst 1, 1) := by decide +kernel
theorem dL_law_1216 : decode cL_law 1216 = .ok (.iadd, 1) := by decide +kernel
theorem dL_law_1217 : decode cL_law 1217 = .ok (.iaload, 1) := by decide +kernel
theorem dL_law_1218 : decode cL_law 1218 = .ok (.invokevirtual 148, 3) := by decide +kernel
theorem dL_law_1221 : decode cL_law 1221 = .ok (.istore 6, 2) := by decide +kernel
theorem dL_law_1223 : decode cL_law 1223 = .ok (.aload_n 2, 1) := by decide +kernel
theorem dL_law_1224 : decode cL_law 1224 = .ok (.invokevirtual 83, 3) := by decide +kernel
theorem dL_law_1227 : decode cL_law 1227 = .ok (.iload 5, 2) := by decide +kernel
theorem dL_law_1229 : decode cL_law 1229 = .ok (.if_icmp .eq 5, 3) := by decide +kernel
theorem dL_law_1232 : decode cL_law 1232 = .ok (.iconst 0, 1) := by decide +kernel
theorem dL_law_1233 : decode cL_law 1233 = .ok (.ireturn, 1) := by decide +kernel
theorem dL_law_1234 : decode cL_law 1234 = .ok (.iload 5, 2) := by decide +kernel
theorem dL_law_1236 : decode cL_law 1236 = .ok (.ifCond .ne 15, 3) := by decide +kernel
theorem dL_law_1239 : decode cL_law 1239 = .ok (.aload_n 3, 1) := by decide +kernel
theorem dL_law_1240 : decode cL_law 1240 = .ok (.iconst 0, 1) := by decide +kernel
theorem dL_law_1241 : decode cL_law 1241 = .ok (.laload, 1) := by decide +kernel
theorem dL_law_1242 : decode cL_law 1242 = .ok (.iload 6, 2) := by decide +kernel
theorem dL_law_1244 : decode cL_law 1244 = .ok (.i2l, 1) := by decide +kernel
theorem dL_law_1245 : decode cL_law 1245 = .ok (.lcmp, 1) := by decide +kernel
theorem dL_law_1246 : decode cL_law 1246 = .ok (.ifCond .eq 5, 3) := by decide +kernel
theorem dL_law_1249 : decode cL_law 1249 = .ok (.iconst 0, 1) := by decide +kernel
theorem dL_law_1250 : decode cL_law 1250 = .ok (.ireturn, 1) := by decide +kernel
theorem dL_law_1251 : decode cL_law 1251 = .ok (.goto 83, 3) := by decide +kernel
theorem dL_law_1254 : decode cL_law 1254 = .ok (.aload_n 1, 1) := by decide +kernel
theorem dL_law_1255 : decode cL_law 1255 = .ok (.aload_n 0, 1) := by decide +kernel
theorem dL_law_1256 : decode cL_law 1256 = .ok (.iload 4, 2) := by decide +kernel
theorem dL_law_1258 : decode cL_law 1258 = .ok (.iconst 1, 1) := by decide +kernel
theorem dL_law_1259 : decode cL_law 1259 = .ok (.iadd, 1) := by decide +kernel
theorem dL_law_1260 : decode cL_law 1260 = .ok (.iaload, 1) := by decide +kernel
theorem dL_law_1261 : decode cL_law 1261 = .ok (.aload_n 0, 1) := by decide +kernel
theorem dL_law_1262 : decode cL_law 1262 = .ok (.iload 4, 2) := by decide +kernel
theorem dL_law_1264 : decode cL_law 1264 = .ok (.iconst 2, 1) := by decide +kernel
theorem dL_law_1265 : decode cL_law 1265 = .ok (.iadd, 1) := by decide +kernel
theorem dL_law_1266 : decode cL_law 1266 = .ok (.iaload, 1) := by decide +kernel
theorem dL_law_1267 : decode cL_law 1267 = .ok (.aload_n 0, 1) := by decide +kernel
theorem dL_law_1268 : decode cL_law 1268 = .ok (.iload 4, 2) := by decide +kernel
theorem dL_law_1270 : decode cL_law 1270 = .ok (.iconst 3, 1) := by decide +kernel
theorem dL_law_1271 : decode cL_law 1271 = .ok (.iadd, 1) := by decide +kernel
theorem dL_law_1272 : decode cL_law 1272 = .ok (.iaload, 1) := by decide +kernel
theorem dL_law_1273 : decode cL_law 1273 = .ok (.aload_n 3, 1) := by decide +kernel
theorem dL_law_1274 : decode cL_law 1274 = .ok (.invokestatic 149, 3) := by decide +kernel
theorem dL_law_1277 : decode cL_law 1277 = .ok (.istore 5, 2) := by decide +kernel
theorem dL_law_1279 : decode cL_law 1279 = .ok (.aload_n 2, 1) := by decide +kernel
theorem dL_law_1280 : decode cL_law 1280 = .ok (.aload_n 0, 1) := by decide +kernel
theorem dL_law_1281 : decode cL_law 1281 = .ok (.iload 4, 2) := by decide +kernel
theorem dL_law_1283 : decode cL_law 1283 = .ok (.iconst 1, 1) := by decide +kernel
theorem dL_law_1284 : decode cL_law 1284 = .ok (.iadd, 1) := by decide +kernel
theorem dL_law_1285 : decode cL_law 1285 = .ok (.iaload, 1) := by decide +kernel
theorem dL_law_1286 : decode cL_law 1286 = .ok (.aload_n 0, 1) := by decide +kernel
theorem dL_law_1287 : decode cL_law 1287 = .ok (.iload 4, 2) := by decide +kernel
theorem dL_law_1289 : decode cL_law 1289 = .ok (.iconst 2, 1) := by decide +kernel
theorem dL_law_1290 : decode cL_law 1290 = .ok (.iadd, 1) := by decide +kernel
theorem dL_law_1291 : decode cL_law 1291 = .ok (.iaload, 1) := by decide +kernel
theorem dL_law_1292 : decode cL_law 1292 = .ok (.aload_n 0, 1) := by decide +kernel
theorem dL_law_1293 : decode cL_law 1293 = .ok (.iload 4, 2) := by decide +kernel
theorem dL_law_1295 : decode cL_law 1295 = .ok (.iconst 3, 1) := by decide +kernel
theorem dL_law_1296 : decode cL_law 1296 = .ok (.iadd, 1) := by decide +kernel
theorem dL_law_1297 : decode cL_law 1297 = .ok (.iaload, 1) := by decide +kernel
theorem dL_law_1298 : decode cL_law 1298 = .ok (.invokevirtual 151, 3) := by decide +kernel
theorem dL_law_1301 : decode cL_law 1301 = .ok (.istore 6, 2) := by decide +kernel
theorem dL_law_1303 : decode cL_law 1303 = .ok (.aload_n 2, 1) := by decide +kernel
theorem dL_law_1304 : decode cL_law 1304 = .ok (.invokevirtual 83, 3) := by decide +kernel
theorem dL_law_1307 : decode cL_law 1307 = .ok (.iload 5, 2) := by decide +kernel
theorem dL_law_1309 : decode cL_law 1309 = .ok (.if_icmp .eq 5, 3) := by decide +kernel
theorem dL_law_1312 : decode cL_law 1312 = .ok (.iconst 0, 1) := by decide +kernel
theorem dL_law_1313 : decode cL_law 1313 = .ok (.ireturn, 1) := by decide +kernel
theorem dL_law_1314 : decode cL_law 1314 = .ok (.iload 5, 2) := by decide +kernel
theorem dL_law_1316 : decode cL_law 1316 = .ok (.ifCond .ne 15, 3) := by decide +kernel
theorem dL_law_1319 : decode cL_law 1319 = .ok (.aload_n 3, 1) := by decide +kernel
theorem dL_law_1320 : decode cL_law 1320 = .ok (.iconst 0, 1) := by decide +kernel
theorem dL_law_1321 : decode cL_law 1321 = .ok (.laload, 1) := by decide +kernel
theorem dL_law_1322 : decode cL_law 1322 = .ok (.iload 6, 2) := by decide +kernel
theorem dL_law_1324 : decode cL_law 1324 = .ok (.i2l, 1) := by decide +kernel
theorem dL_law_1325 : decode cL_law 1325 = .ok (.lcmp, 1) := by decide +kernel
theorem dL_law_1326 : decode cL_law 1326 = .ok (.ifCond .eq 5, 3) := by decide +kernel
theorem dL_law_1329 : decode cL_law 1329 = .ok (.iconst 0, 1) := by decide +kernel
theorem dL_law_1330 : decode cL_law 1330 = .ok (.ireturn, 1) := by decide +kernel
theorem dL_law_1331 : decode cL_law 1331 = .ok (.goto 3, 3) := by decide +kernel
theorem dL_law_1334 : decode cL_law 1334 = .ok (.iinc 4 4, 3) := by decide +kernel
theorem dL_law_1337 : decode cL_law 1337 = .ok (.goto (-1314), 3) := by decide +kernel
theorem dL_law_1340 : decode cL_law 1340 = .ok (.iconst 1, 1) := by decide +kernel
theorem dL_law_1341 : decode cL_law 1341 = .ok (.ireturn, 1) := by decide +kernel
