theorem dX0_init_0 : decode cX0_init 0 = .ok (.aload_n 0, 1) := by decide +kernel
theorem dX0_init_1 : decode cX0_init 1 = .ok (.invokespecial 1, 3) := by decide +kernel
theorem dX0_init_4 : decode cX0_init 4 = .ok (.aload_n 0, 1) := by decide +kernel
theorem dX0_init_5 : decode cX0_init 5 = .ok (.iload_n 1, 1) := by decide +kernel
theorem dX0_init_6 : decode cX0_init 6 = .ok (.putfield 7, 3) := by decide +kernel
theorem dX0_init_9 : decode cX0_init 9 = .ok (.aload_n 0, 1) := by decide +kernel
theorem dX0_init_10 : decode cX0_init 10 = .ok (.iload_n 2, 1) := by decide +kernel
theorem dX0_init_11 : decode cX0_init 11 = .ok (.putfield 13, 3) := by decide +kernel
theorem dX0_init_14 : decode cX0_init 14 = .ok (.aload_n 0, 1) := by decide +kernel
theorem dX0_init_15 : decode cX0_init 15 = .ok (.iload_n 3, 1) := by decide +kernel
theorem dX0_init_16 : decode cX0_init 16 = .ok (.putfield 16, 3) := by decide +kernel
theorem dX0_init_19 : decode cX0_init 19 = .ok (.return_, 1) := by decide +kernel
theorem dX0_cuts_0 : decode cX0_cuts 0 = .ok (.aload_n 0, 1) := by decide +kernel
theorem dX0_cuts_1 : decode cX0_cuts 1 = .ok (.getfield 7, 3) := by decide +kernel
theorem dX0_cuts_4 : decode cX0_cuts 4 = .ok (.iload_n 1, 1) := by decide +kernel
theorem dX0_cuts_5 : decode cX0_cuts 5 = .ok (.if_icmp .ne 23, 3) := by decide +kernel
theorem dX0_cuts_8 : decode cX0_cuts 8 = .ok (.iload_n 2, 1) := by decide +kernel
theorem dX0_cuts_9 : decode cX0_cuts 9 = .ok (.aload_n 0, 1) := by decide +kernel
theorem dX0_cuts_10 : decode cX0_cuts 10 = .ok (.getfield 13, 3) := by decide +kernel
theorem dX0_cuts_13 : decode cX0_cuts 13 = .ok (.if_icmp .lt 15, 3) := by decide +kernel
theorem dX0_cuts_16 : decode cX0_cuts 16 = .ok (.iload_n 2, 1) := by decide +kernel
theorem dX0_cuts_17 : decode cX0_cuts 17 = .ok (.aload_n 0, 1) := by decide +kernel
theorem dX0_cuts_18 : decode cX0_cuts 18 = .ok (.getfield 16, 3) := by decide +kernel
theorem dX0_cuts_21 : decode cX0_cuts 21 = .ok (.if_icmp .gt 7, 3) := by decide +kernel
theorem dX0_cuts_24 : decode cX0_cuts 24 = .ok (.iconst 1, 1) := by decide +kernel
theorem dX0_cuts_25 : decode cX0_cuts 25 = .ok (.goto 4, 3) := by decide +kernel
theorem dX0_cuts_28 : decode cX0_cuts 28 = .ok (.iconst 0, 1) := by decide +kernel
theorem dX0_cuts_29 : decode cX0_cuts 29 = .ok (.ireturn, 1) := by decide +kernel
theorem dX1_init_0 : decode cX1_init 0 = .ok (.aload_n 0, 1) := by decide +kernel
theorem dX1_init_1 : decode cX1_init 1 = .ok (.invokespecial 1, 3) := by decide +kernel
theorem dX1_init_4 : decode cX1_init 4 = .ok (.aload_n 0, 1) := by decide +kernel
theorem dX1_init_5 : decode cX1_init 5 = .ok (.lconst 1, 1) := by decide +kernel
theorem dX1_init_6 : decode cX1_init 6 = .ok (.putfield 7, 3) := by decide +kernel
theorem dX1_init_9 : decode cX1_init 9 = .ok (.aload_n 0, 1) := by decide +kernel
theorem dX1_init_10 : decode cX1_init 10 = .ok (.lload_n 1, 1) := by decide +kernel
theorem dX1_init_11 : decode cX1_init 11 = .ok (.putfield 13, 3) := by decide +kernel
theorem dX1_init_14 : decode cX1_init 14 = .ok (.return_, 1) := by decide +kernel
theorem dX1_multiply_0 : decode cX1_multiply 0 = .ok (.aload_n 0, 1) := by decide +kernel
theorem dX1_multiply_1 : decode cX1_multiply 1 = .ok (.dup, 1) := by decide +kernel
theorem dX1_multiply_2 : decode cX1_multiply 2 = .ok (.getfield 13, 3) := by decide +kernel
theorem dX1_multiply_5 : decode cX1_multiply 5 = .ok (.lload_n 1, 1) := by decide +kernel
theorem dX1_multiply_6 : decode cX1_multiply 6 = .ok (.lmul, 1) := by decide +kernel
theorem dX1_multiply_7 : decode cX1_multiply 7 = .ok (.putfield 13, 3) := by decide +kernel
theorem dX1_multiply_10 : decode cX1_multiply 10 = .ok (.aload_n 0, 1) := by decide +kernel
theorem dX1_multiply_11 : decode cX1_multiply 11 = .ok (.dup, 1) := by decide +kernel
theorem dX1_multiply_12 : decode cX1_multiply 12 = .ok (.getfield 7, 3) := by decide +kernel
theorem dX1_multiply_15 : decode cX1_multiply 15 = .ok (.lload_n 3, 1) := by decide +kernel
theorem dX1_multiply_16 : decode cX1_multiply 16 = .ok (.lmul, 1) := by decide +kernel
theorem dX1_multiply_17 : decode cX1_multiply 17 = .ok (.putfield 7, 3) := by decide +kernel
theorem dX1_multiply_20 : decode cX1_multiply 20 = .ok (.aload_n 0, 1) := by decide +kernel
theorem dX1_multiply_21 : decode cX1_multiply 21 = .ok (.getfield 13, 3) := by decide +kernel
theorem dX1_multiply_24 : decode cX1_multiply 24 = .ok (.aload_n 0, 1) := by decide +kernel
theorem dX1_multiply_25 : decode cX1_multiply 25 = .ok (.getfield 7, 3) := by decide +kernel
theorem dX1_multiply_28 : decode cX1_multiply 28 = .ok (.invokestatic 16, 3) := by decide +kernel
theorem dX1_multiply_31 : decode cX1_multiply 31 = .ok (.lstore 5, 2) := by decide +kernel
theorem dX1_multiply_33 : decode cX1_multiply 33 = .ok (.lload 5, 2) := by decide +kernel
theorem dX1_multiply_35 : decode cX1_multiply 35 = .ok (.lconst 1, 1) := by decide +kernel
theorem dX1_multiply_36 : decode cX1_multiply 36 = .ok (.lcmp, 1) := by decide +kernel
theorem dX1_multiply_37 : decode cX1_multiply 37 = .ok (.ifCond .le 25, 3) := by decide +kernel
theorem dX1_multiply_40 : decode cX1_multiply 40 = .ok (.aload_n 0, 1) := by decide +kernel
theorem dX1_multiply_41 : decode cX1_multiply 41 = .ok (.dup, 1) := by decide +kernel
theorem dX1_multiply_42 : decode cX1_multiply 42 = .ok (.getfield 13, 3) := by decide +kernel
theorem dX1_multiply_45 : decode cX1_multiply 45 = .ok (.lload 5, 2) := by decide +kernel
theorem dX1_multiply_47 : decode cX1_multiply 47 = .ok (.ldiv, 1) := by decide +kernel
theorem dX1_multiply_48 : decode cX1_multiply 48 = .ok (.putfield 13, 3) := by decide +kernel
theorem dX1_multiply_51 : decode cX1_multiply 51 = .ok (.aload_n 0, 1) := by decide +kernel
theorem dX1_multiply_52 : decode cX1_multiply 52 = .ok (.dup, 1) := by decide +kernel
theorem dX1_multiply_53 : decode cX1_multiply 53 = .ok (.getfield 7, 3) := by decide +kernel
theorem dX1_multiply_56 : decode cX1_multiply 56 = .ok (.lload 5, 2) := by decide +kernel
theorem dX1_multiply_58 : decode cX1_multiply 58 = .ok (.ldiv, 1) := by decide +kernel
theorem dX1_multiply_59 : decode cX1_multiply 59 = .ok (.putfield 7, 3) := by decide +kernel
theorem dX1_multiply_62 : decode cX1_multiply 62 = .ok (.return_, 1) := by decide +kernel
theorem dX1_roundedDown_0 : decode cX1_roundedDown 0 = .ok (.aload_n 0, 1) := by decide +kernel
theorem dX1_roundedDown_1 : decode cX1_roundedDown 1 = .ok (.getfield 7, 3) := by decide +kernel
theorem dX1_roundedDown_4 : decode cX1_roundedDown 4 = .ok (.lconst 0, 1) := by decide +kernel
theorem dX1_roundedDown_5 : decode cX1_roundedDown 5 = .ok (.lcmp, 1) := by decide +kernel
theorem dX1_roundedDown_6 : decode cX1_roundedDown 6 = .ok (.ifCond .le 16, 3) := by decide +kernel
theorem dX1_roundedDown_9 : decode cX1_roundedDown 9 = .ok (.aload_n 0, 1) := by decide +kernel
theorem dX1_roundedDown_10 : decode cX1_roundedDown 10 = .ok (.getfield 13, 3) := by decide +kernel
theorem dX1_roundedDown_13 : decode cX1_roundedDown 13 = .ok (.aload_n 0, 1) := by decide +kernel
theorem dX1_roundedDown_14 : decode cX1_roundedDown 14 = .ok (.getfield 7, 3) := by decide +kernel
theorem dX1_roundedDown_17 : decode cX1_roundedDown 17 = .ok (.ldiv, 1) := by decide +kernel
theorem dX1_roundedDown_18 : decode cX1_roundedDown 18 = .ok (.l2i, 1) := by decide +kernel
theorem dX1_roundedDown_19 : decode cX1_roundedDown 19 = .ok (.goto 4, 3) := by decide +kernel
theorem dX1_roundedDown_22 : decode cX1_roundedDown 22 = .ok (.iconst 0, 1) := by decide +kernel
theorem dX1_roundedDown_23 : decode cX1_roundedDown 23 = .ok (.ireturn, 1) := by decide +kernel
theorem dX2_init_0 : decode cX2_init 0 = .ok (.aload_n 0, 1) := by decide +kernel
theorem dX2_init_1 : decode cX2_init 1 = .ok (.invokespecial 1, 3) := by decide +kernel
theorem dX2_init_4 : decode cX2_init 4 = .ok (.aload_n 0, 1) := by decide +kernel
theorem dX2_init_5 : decode cX2_init 5 = .ok (.aload_n 1, 1) := by decide +kernel
theorem dX2_init_6 : decode cX2_init 6 = .ok (.putfield 7, 3) := by decide +kernel
theorem dX2_init_9 : decode cX2_init 9 = .ok (.aload_n 0, 1) := by decide +kernel
theorem dX2_init_10 : decode cX2_init 10 = .ok (.iload_n 2, 1) := by decide +kernel
theorem dX2_init_11 : decode cX2_init 11 = .ok (.putfield 13, 3) := by decide +kernel
theorem dX2_init_14 : decode cX2_init 14 = .ok (.aload_n 0, 1) := by decide +kernel
theorem dX2_init_15 : decode cX2_init 15 = .ok (.iload_n 3, 1) := by decide +kernel
theorem dX2_init_16 : decode cX2_init 16 = .ok (.putfield 17, 3) := by decide +kernel
theorem dX2_init_19 : decode cX2_init 19 = .ok (.return_, 1) := by decide +kernel
theorem dX3_init_0 : decode cX3_init 0 = .ok (.aload_n 0, 1) := by decide +kernel
theorem dX3_init_1 : decode cX3_init 1 = .ok (.invokespecial 3, 3) := by decide +kernel
theorem dX3_init_4 : decode cX3_init 4 = .ok (.aload_n 0, 1) := by decide +kernel
theorem dX3_init_5 : decode cX3_init 5 = .ok (.iconst (-1), 1) := by decide +kernel
theorem dX3_init_6 : decode cX3_init 6 = .ok (.putfield 9, 3) := by decide +kernel
theorem dX3_init_9 : decode cX3_init 9 = .ok (.aload_n 0, 1) := by decide +kernel
theorem dX3_init_10 : decode cX3_init 10 = .ok (.aconst_null, 1) := by decide +kernel
theorem dX3_init_11 : decode cX3_init 11 = .ok (.putfield 15, 3) := by decide +kernel
theorem dX3_init_14 : decode cX3_init 14 = .ok (.aload_n 0, 1) := by decide +kernel
theorem dX3_init_15 : decode cX3_init 15 = .ok (.iconst 0, 1) := by decide +kernel
theorem dX3_init_16 : decode cX3_init 16 = .ok (.putfield 19, 3) := by decide +kernel
theorem dX3_init_19 : decode cX3_init 19 = .ok (.return_, 1) := by decide +kernel
theorem dX3_begin_0 : decode cX3_begin 0 = .ok (.aload_n 0, 1) := by decide +kernel
theorem dX3_begin_1 : decode cX3_begin 1 = .ok (.aload_n 1, 1) := by decide +kernel
theorem dX3_begin_2 : decode cX3_begin 2 = .ok (.putfield 15, 3) := by decide +kernel
theorem dX3_begin_5 : decode cX3_begin 5 = .ok (.aload_n 0, 1) := by decide +kernel
theorem dX3_begin_6 : decode cX3_begin 6 = .ok (.aload_n 1, 1) := by decide +kernel
theorem dX3_begin_7 : decode cX3_begin 7 = .ok (.getfield 22, 3) := by decide +kernel
theorem dX3_begin_10 : decode cX3_begin 10 = .ok (.putfield 9, 3) := by decide +kernel
theorem dX3_begin_13 : decode cX3_begin 13 = .ok (.aload_n 0, 1) := by decide +kernel
theorem dX3_begin_14 : decode cX3_begin 14 = .ok (.iload_n 2, 1) := by decide +kernel
theorem dX3_begin_15 : decode cX3_begin 15 = .ok (.aload_n 1, 1) := by decide +kernel
theorem dX3_begin_16 : decode cX3_begin 16 = .ok (.getfield 25, 3) := by decide +kernel
theorem dX3_begin_19 : decode cX3_begin 19 = .ok (.iadd, 1) := by decide +kernel
theorem dX3_begin_20 : decode cX3_begin 20 = .ok (.putfield 19, 3) := by decide +kernel
theorem dX3_begin_23 : decode cX3_begin 23 = .ok (.return_, 1) := by decide +kernel
theorem dX3_work_0 : decode cX3_work 0 = .ok (.aload_n 0, 1) := by decide +kernel
theorem dX3_work_1 : decode cX3_work 1 = .ok (.getfield 15, 3) := by decide +kernel
theorem dX3_work_4 : decode cX3_work 4 = .ok (.ifnonnull 5, 3) := by decide +kernel
theorem dX3_work_7 : decode cX3_work 7 = .ok (.aconst_null, 1) := by decide +kernel
theorem dX3_work_8 : decode cX3_work 8 = .ok (.areturn, 1) := by decide +kernel
theorem dX3_work_9 : decode cX3_work 9 = .ok (.aload_n 0, 1) := by decide +kernel
theorem dX3_work_10 : decode cX3_work 10 = .ok (.dup, 1) := by decide +kernel
theorem dX3_work_11 : decode cX3_work 11 = .ok (.getfield 19, 3) := by decide +kernel
theorem dX3_work_14 : decode cX3_work 14 = .ok (.iconst 1, 1) := by decide +kernel
theorem dX3_work_15 : decode cX3_work 15 = .ok (.isub, 1) := by decide +kernel
theorem dX3_work_16 : decode cX3_work 16 = .ok (.putfield 19, 3) := by decide +kernel
theorem dX3_work_19 : decode cX3_work 19 = .ok (.aload_n 0, 1) := by decide +kernel
theorem dX3_work_20 : decode cX3_work 20 = .ok (.getfield 19, 3) := by decide +kernel
theorem dX3_work_23 : decode cX3_work 23 = .ok (.ifCond .le 5, 3) := by decide +kernel
theorem dX3_work_26 : decode cX3_work 26 = .ok (.aconst_null, 1) := by decide +kernel
theorem dX3_work_27 : decode cX3_work 27 = .ok (.areturn, 1) := by decide +kernel
theorem dX3_work_28 : decode cX3_work 28 = .ok (.aload_n 0, 1) := by decide +kernel
theorem dX3_work_29 : decode cX3_work 29 = .ok (.getfield 15, 3) := by decide +kernel
theorem dX3_work_32 : decode cX3_work 32 = .ok (.getfield 28, 3) := by decide +kernel
theorem dX3_work_35 : decode cX3_work 35 = .ok (.astore_n 1, 1) := by decide +kernel
theorem dX3_work_36 : decode cX3_work 36 = .ok (.aload_n 0, 1) := by decide +kernel
theorem dX3_work_37 : decode cX3_work 37 = .ok (.aconst_null, 1) := by decide +kernel
theorem dX3_work_38 : decode cX3_work 38 = .ok (.putfield 15, 3) := by decide +kernel
theorem dX3_work_41 : decode cX3_work 41 = .ok (.aload_n 1, 1) := by decide +kernel
theorem dX3_work_42 : decode cX3_work 42 = .ok (.areturn, 1) := by decide +kernel
theorem dX4_init_0 : decode cX4_init 0 = .ok (.aload_n 0, 1) := by decide +kernel
theorem dX4_init_1 : decode cX4_init 1 = .ok (.invokespecial 1, 3) := by decide +kernel
theorem dX4_init_4 : decode cX4_init 4 = .ok (.aload_n 0, 1) := by decide +kernel
theorem dX4_init_5 : decode cX4_init 5 = .ok (.iconst 0, 1) := by decide +kernel
theorem dX4_init_6 : decode cX4_init 6 = .ok (.putfield 7, 3) := by decide +kernel
theorem dX4_init_9 : decode cX4_init 9 = .ok (.aload_n 0, 1) := by decide +kernel
theorem dX4_init_10 : decode cX4_init 10 = .ok (.aload_n 1, 1) := by decide +kernel
theorem dX4_init_11 : decode cX4_init 11 = .ok (.putfield 13, 3) := by decide +kernel
theorem dX4_init_14 : decode cX4_init 14 = .ok (.return_, 1) := by decide +kernel
theorem dX5_init_0 : decode cX5_init 0 = .ok (.aload_n 0, 1) := by decide +kernel
theorem dX5_init_1 : decode cX5_init 1 = .ok (.invokespecial 3, 3) := by decide +kernel
theorem dX5_init_4 : decode cX5_init 4 = .ok (.aload_n 0, 1) := by decide +kernel
theorem dX5_init_5 : decode cX5_init 5 = .ok (.new 9, 3) := by decide +kernel
theorem dX5_init_8 : decode cX5_init 8 = .ok (.dup, 1) := by decide +kernel
theorem dX5_init_9 : decode cX5_init 9 = .ok (.invokespecial 11, 3) := by decide +kernel
theorem dX5_init_12 : decode cX5_init 12 = .ok (.putfield 12, 3) := by decide +kernel
theorem dX5_init_15 : decode cX5_init 15 = .ok (.aload_n 0, 1) := by decide +kernel
theorem dX5_init_16 : decode cX5_init 16 = .ok (.iconst (-1), 1) := by decide +kernel
theorem dX5_init_17 : decode cX5_init 17 = .ok (.putfield 18, 3) := by decide +kernel
theorem dX5_init_20 : decode cX5_init 20 = .ok (.aload_n 0, 1) := by decide +kernel
theorem dX5_init_21 : decode cX5_init 21 = .ok (.iconst 0, 1) := by decide +kernel
theorem dX5_init_22 : decode cX5_init 22 = .ok (.putfield 22, 3) := by decide +kernel
theorem dX5_init_25 : decode cX5_init 25 = .ok (.aload_n 0, 1) := by decide +kernel
theorem dX5_init_26 : decode cX5_init 26 = .ok (.aload_n 1, 1) := by decide +kernel
theorem dX5_init_27 : decode cX5_init 27 = .ok (.putfield 26, 3) := by decide +kernel
theorem dX5_init_30 : decode cX5_init 30 = .ok (.iconst 0, 1) := by decide +kernel
theorem dX5_init_31 : decode cX5_init 31 = .ok (.istore_n 2, 1) := by decide +kernel
theorem dX5_init_32 : decode cX5_init 32 = .ok (.iload_n 2, 1) := by decide +kernel
theorem dX5_init_33 : decode cX5_init 33 = .ok (.aload_n 1, 1) := by decide +kernel
theorem dX5_init_34 : decode cX5_init 34 = .ok (.getfield 30, 3) := by decide +kernel
theorem dX5_init_37 : decode cX5_init 37 = .ok (.invokevirtual 35, 3) := by decide +kernel
theorem dX5_init_40 : decode cX5_init 40 = .ok (.if_icmp .ge 35, 3) := by decide +kernel
theorem dX5_init_43 : decode cX5_init 43 = .ok (.aload_n 0, 1) := by decide +kernel
theorem dX5_init_44 : decode cX5_init 44 = .ok (.getfield 12, 3) := by decide +kernel
theorem dX5_init_47 : decode cX5_init 47 = .ok (.new 39, 3) := by decide +kernel
theorem dX5_init_50 : decode cX5_init 50 = .ok (.dup, 1) := by decide +kernel
theorem dX5_init_51 : decode cX5_init 51 = .ok (.aload_n 1, 1) := by decide +kernel
theorem dX5_init_52 : decode cX5_init 52 = .ok (.getfield 30, 3) := by decide +kernel
theorem dX5_init_55 : decode cX5_init 55 = .ok (.iload_n 2, 1) := by decide +kernel
theorem dX5_init_56 : decode cX5_init 56 = .ok (.invokevirtual 41, 3) := by decide +kernel
theorem dX5_init_59 : decode cX5_init 59 = .ok (.checkcast 45, 3) := by decide +kernel
theorem dX5_init_62 : decode cX5_init 62 = .ok (.invokespecial 47, 3) := by decide +kernel
theorem dX5_init_65 : decode cX5_init 65 = .ok (.invokevirtual 50, 3) := by decide +kernel
theorem dX5_init_68 : decode cX5_init 68 = .ok (.pop, 1) := by decide +kernel
theorem dX5_init_69 : decode cX5_init 69 = .ok (.iinc 2 1, 3) := by decide +kernel
theorem dX5_init_72 : decode cX5_init 72 = .ok (.goto (-40), 3) := by decide +kernel
theorem dX5_init_75 : decode cX5_init 75 = .ok (.aload_n 0, 1) := by decide +kernel
theorem dX5_init_76 : decode cX5_init 76 = .ok (.iconst 2, 1) := by decide +kernel
theorem dX5_init_77 : decode cX5_init 77 = .ok (.aload_n 1, 1) := by decide +kernel
theorem dX5_init_78 : decode cX5_init 78 = .ok (.getfield 30, 3) := by decide +kernel
theorem dX5_init_81 : decode cX5_init 81 = .ok (.invokevirtual 35, 3) := by decide +kernel
theorem dX5_init_84 : decode cX5_init 84 = .ok (.imul, 1) := by decide +kernel
theorem dX5_init_85 : decode cX5_init 85 = .ok (.putfield 54, 3) := by decide +kernel
theorem dX5_init_88 : decode cX5_init 88 = .ok (.return_, 1) := by decide +kernel
theorem dX5_countCutGear_0 : decode cX5_countCutGear 0 = .ok (.aload_n 0, 1) := by decide +kernel
theorem dX5_countCutGear_1 : decode cX5_countCutGear 1 = .ok (.dup, 1) := by decide +kernel
theorem dX5_countCutGear_2 : decode cX5_countCutGear 2 = .ok (.getfield 54, 3) := by decide +kernel
theorem dX5_countCutGear_5 : decode cX5_countCutGear 5 = .ok (.iconst 1, 1) := by decide +kernel
theorem dX5_countCutGear_6 : decode cX5_countCutGear 6 = .ok (.isub, 1) := by decide +kernel
theorem dX5_countCutGear_7 : decode cX5_countCutGear 7 = .ok (.putfield 54, 3) := by decide +kernel
theorem dX5_countCutGear_10 : decode cX5_countCutGear 10 = .ok (.aload_n 0, 1) := by decide +kernel
theorem dX5_countCutGear_11 : decode cX5_countCutGear 11 = .ok (.getfield 54, 3) := by decide +kernel
theorem dX5_countCutGear_14 : decode cX5_countCutGear 14 = .ok (.ifCond .ne 8, 3) := by decide +kernel
theorem dX5_countCutGear_17 : decode cX5_countCutGear 17 = .ok (.aload_n 0, 1) := by decide +kernel
theorem dX5_countCutGear_18 : decode cX5_countCutGear 18 = .ok (.iload_n 1, 1) := by decide +kernel
theorem dX5_countCutGear_19 : decode cX5_countCutGear 19 = .ok (.putfield 18, 3) := by decide +kernel
theorem dX5_countCutGear_22 : decode cX5_countCutGear 22 = .ok (.return_, 1) := by decide +kernel
theorem dX5_wearDown_0 : decode cX5_wearDown 0 = .ok (.iconst 0, 1) := by decide +kernel
theorem dX5_wearDown_1 : decode cX5_wearDown 1 = .ok (.istore_n 2, 1) := by decide +kernel
theorem dX5_wearDown_2 : decode cX5_wearDown 2 = .ok (.iload_n 2, 1) := by decide +kernel
theorem dX5_wearDown_3 : decode cX5_wearDown 3 = .ok (.aload_n 0, 1) := by decide +kernel
theorem dX5_wearDown_4 : decode cX5_wearDown 4 = .ok (.getfield 12, 3) := by decide +kernel
theorem dX5_wearDown_7 : decode cX5_wearDown 7 = .ok (.invokevirtual 35, 3) := by decide +kernel
theorem dX5_wearDown_10 : decode cX5_wearDown 10 = .ok (.if_icmp .ge 57, 3) := by decide +kernel
theorem dX5_wearDown_13 : decode cX5_wearDown 13 = .ok (.aload_n 0, 1) := by decide +kernel
theorem dX5_wearDown_14 : decode cX5_wearDown 14 = .ok (.getfield 12, 3) := by decide +kernel
theorem dX5_wearDown_17 : decode cX5_wearDown 17 = .ok (.iload_n 2, 1) := by decide +kernel
theorem dX5_wearDown_18 : decode cX5_wearDown 18 = .ok (.invokevirtual 41, 3) := by decide +kernel
theorem dX5_wearDown_21 : decode cX5_wearDown 21 = .ok (.checkcast 39, 3) := by decide +kernel
theorem dX5_wearDown_24 : decode cX5_wearDown 24 = .ok (.astore_n 3, 1) := by decide +kernel
theorem dX5_wearDown_25 : decode cX5_wearDown 25 = .ok (.aload_n 3, 1) := by decide +kernel
theorem dX5_wearDown_26 : decode cX5_wearDown 26 = .ok (.dup, 1) := by decide +kernel
theorem dX5_wearDown_27 : decode cX5_wearDown 27 = .ok (.getfield 57, 3) := by decide +kernel
theorem dX5_wearDown_30 : decode cX5_wearDown 30 = .ok (.aload_n 3, 1) := by decide +kernel
theorem dX5_wearDown_31 : decode cX5_wearDown 31 = .ok (.getfield 60, 3) := by decide +kernel
theorem dX5_wearDown_34 : decode cX5_wearDown 34 = .ok (.iload_n 1, 1) := by decide +kernel
theorem dX5_wearDown_35 : decode cX5_wearDown 35 = .ok (.invokevirtual 64, 3) := by decide +kernel
theorem dX5_wearDown_38 : decode cX5_wearDown 38 = .ok (.iadd, 1) := by decide +kernel
theorem dX5_wearDown_39 : decode cX5_wearDown 39 = .ok (.putfield 57, 3) := by decide +kernel
theorem dX5_wearDown_42 : decode cX5_wearDown 42 = .ok (.aload_n 3, 1) := by decide +kernel
theorem dX5_wearDown_43 : decode cX5_wearDown 43 = .ok (.getfield 57, 3) := by decide +kernel
theorem dX5_wearDown_46 : decode cX5_wearDown 46 = .ok (.aload_n 3, 1) := by decide +kernel
theorem dX5_wearDown_47 : decode cX5_wearDown 47 = .ok (.getfield 60, 3) := by decide +kernel
theorem dX5_wearDown_50 : decode cX5_wearDown 50 = .ok (.invokevirtual 68, 3) := by decide +kernel
theorem dX5_wearDown_53 : decode cX5_wearDown 53 = .ok (.if_icmp .le 8, 3) := by decide +kernel
theorem dX5_wearDown_56 : decode cX5_wearDown 56 = .ok (.aload_n 0, 1) := by decide +kernel
theorem dX5_wearDown_57 : decode cX5_wearDown 57 = .ok (.iconst 1, 1) := by decide +kernel
theorem dX5_wearDown_58 : decode cX5_wearDown 58 = .ok (.putfield 22, 3) := by decide +kernel
theorem dX5_wearDown_61 : decode cX5_wearDown 61 = .ok (.iinc 2 1, 3) := by decide +kernel
theorem dX5_wearDown_64 : decode cX5_wearDown 64 = .ok (.goto (-62), 3) := by decide +kernel
theorem dX5_wearDown_67 : decode cX5_wearDown 67 = .ok (.return_, 1) := by decide +kernel
theorem dX6_init_0 : decode cX6_init 0 = .ok (.aload_n 0, 1) := by decide +kernel
theorem dX6_init_1 : decode cX6_init 1 = .ok (.invokespecial 3, 3) := by decide +kernel
theorem dX6_init_4 : decode cX6_init 4 = .ok (.aload_n 0, 1) := by decide +kernel
theorem dX6_init_5 : decode cX6_init 5 = .ok (.iload_n 1, 1) := by decide +kernel
theorem dX6_init_6 : decode cX6_init 6 = .ok (.putfield 9, 3) := by decide +kernel
theorem dX6_init_9 : decode cX6_init 9 = .ok (.aload_n 0, 1) := by decide +kernel
theorem dX6_init_10 : decode cX6_init 10 = .ok (.iload_n 2, 1) := by decide +kernel
theorem dX6_init_11 : decode cX6_init 11 = .ok (.putfield 15, 3) := by decide +kernel
theorem dX6_init_14 : decode cX6_init 14 = .ok (.aload_n 0, 1) := by decide +kernel
theorem dX6_init_15 : decode cX6_init 15 = .ok (.iload_n 3, 1) := by decide +kernel
theorem dX6_init_16 : decode cX6_init 16 = .ok (.putfield 18, 3) := by decide +kernel
theorem dX6_init_19 : decode cX6_init 19 = .ok (.return_, 1) := by decide +kernel
theorem dX6_wearOf_0 : decode cX6_wearOf 0 = .ok (.aload_n 0, 1) := by decide +kernel
theorem dX6_wearOf_1 : decode cX6_wearOf 1 = .ok (.getfield 9, 3) := by decide +kernel
theorem dX6_wearOf_4 : decode cX6_wearOf 4 = .ok (.ifCond .le 12, 3) := by decide +kernel
theorem dX6_wearOf_7 : decode cX6_wearOf 7 = .ok (.iload_n 1, 1) := by decide +kernel
theorem dX6_wearOf_8 : decode cX6_wearOf 8 = .ok (.aload_n 0, 1) := by decide +kernel
theorem dX6_wearOf_9 : decode cX6_wearOf 9 = .ok (.getfield 9, 3) := by decide +kernel
theorem dX6_wearOf_12 : decode cX6_wearOf 12 = .ok (.idiv, 1) := by decide +kernel
theorem dX6_wearOf_13 : decode cX6_wearOf 13 = .ok (.goto 4, 3) := by decide +kernel
theorem dX6_wearOf_16 : decode cX6_wearOf 16 = .ok (.iconst 0, 1) := by decide +kernel
theorem dX6_wearOf_17 : decode cX6_wearOf 17 = .ok (.ireturn, 1) := by decide +kernel
theorem dX6_mostWear_0 : decode cX6_mostWear 0 = .ok (.bipush 10, 2) := by decide +kernel
theorem dX6_mostWear_2 : decode cX6_mostWear 2 = .ok (.aload_n 0, 1) := by decide +kernel
theorem dX6_mostWear_3 : decode cX6_mostWear 3 = .ok (.getfield 15, 3) := by decide +kernel
theorem dX6_mostWear_6 : decode cX6_mostWear 6 = .ok (.aload_n 0, 1) := by decide +kernel
theorem dX6_mostWear_7 : decode cX6_mostWear 7 = .ok (.getfield 18, 3) := by decide +kernel
theorem dX6_mostWear_10 : decode cX6_mostWear 10 = .ok (.invokestatic 21, 3) := by decide +kernel
theorem dX6_mostWear_13 : decode cX6_mostWear 13 = .ok (.imul, 1) := by decide +kernel
theorem dX6_mostWear_14 : decode cX6_mostWear 14 = .ok (.ireturn, 1) := by decide +kernel
theorem dX7_init_0 : decode cX7_init 0 = .ok (.aload_n 0, 1) := by decide +kernel
theorem dX7_init_1 : decode cX7_init 1 = .ok (.invokespecial 1, 3) := by decide +kernel
theorem dX7_init_4 : decode cX7_init 4 = .ok (.aload_n 0, 1) := by decide +kernel
theorem dX7_init_5 : decode cX7_init 5 = .ok (.new 7, 3) := by decide +kernel
theorem dX7_init_8 : decode cX7_init 8 = .ok (.dup, 1) := by decide +kernel
theorem dX7_init_9 : decode cX7_init 9 = .ok (.invokespecial 9, 3) := by decide +kernel
theorem dX7_init_12 : decode cX7_init 12 = .ok (.putfield 10, 3) := by decide +kernel
theorem dX7_init_15 : decode cX7_init 15 = .ok (.aload_n 0, 1) := by decide +kernel
theorem dX7_init_16 : decode cX7_init 16 = .ok (.new 16, 3) := by decide +kernel
theorem dX7_init_19 : decode cX7_init 19 = .ok (.dup, 1) := by decide +kernel
theorem dX7_init_20 : decode cX7_init 20 = .ok (.lconst 1, 1) := by decide +kernel
theorem dX7_init_21 : decode cX7_init 21 = .ok (.invokespecial 18, 3) := by decide +kernel
theorem dX7_init_24 : decode cX7_init 24 = .ok (.putfield 21, 3) := by decide +kernel
theorem dX7_init_27 : decode cX7_init 27 = .ok (.aload_n 0, 1) := by decide +kernel
theorem dX7_init_28 : decode cX7_init 28 = .ok (.iconst 0, 1) := by decide +kernel
theorem dX7_init_29 : decode cX7_init 29 = .ok (.putfield 25, 3) := by decide +kernel
theorem dX7_init_32 : decode cX7_init 32 = .ok (.return_, 1) := by decide +kernel
theorem dX7_append_0 : decode cX7_append 0 = .ok (.aload_n 0, 1) := by decide +kernel
theorem dX7_append_1 : decode cX7_append 1 = .ok (.getfield 10, 3) := by decide +kernel
theorem dX7_append_4 : decode cX7_append 4 = .ok (.aload_n 1, 1) := by decide +kernel
theorem dX7_append_5 : decode cX7_append 5 = .ok (.invokevirtual 29, 3) := by decide +kernel
theorem dX7_append_8 : decode cX7_append 8 = .ok (.pop, 1) := by decide +kernel
theorem dX7_append_9 : decode cX7_append 9 = .ok (.aload_n 0, 1) := by decide +kernel
theorem dX7_append_10 : decode cX7_append 10 = .ok (.getfield 21, 3) := by decide +kernel
theorem dX7_append_13 : decode cX7_append 13 = .ok (.aload_n 1, 1) := by decide +kernel
theorem dX7_append_14 : decode cX7_append 14 = .ok (.getfield 33, 3) := by decide +kernel
theorem dX7_append_17 : decode cX7_append 17 = .ok (.i2l, 1) := by decide +kernel
theorem dX7_append_18 : decode cX7_append 18 = .ok (.aload_n 1, 1) := by decide +kernel
theorem dX7_append_19 : decode cX7_append 19 = .ok (.getfield 38, 3) := by decide +kernel
theorem dX7_append_22 : decode cX7_append 22 = .ok (.i2l, 1) := by decide +kernel
theorem dX7_append_23 : decode cX7_append 23 = .ok (.invokevirtual 41, 3) := by decide +kernel
theorem dX7_append_26 : decode cX7_append 26 = .ok (.return_, 1) := by decide +kernel
theorem dX7_distance_0 : decode cX7_distance 0 = .ok (.iconst 0, 1) := by decide +kernel
theorem dX7_distance_1 : decode cX7_distance 1 = .ok (.istore_n 1, 1) := by decide +kernel
theorem dX7_distance_2 : decode cX7_distance 2 = .ok (.iconst 0, 1) := by decide +kernel
theorem dX7_distance_3 : decode cX7_distance 3 = .ok (.istore_n 2, 1) := by decide +kernel
theorem dX7_distance_4 : decode cX7_distance 4 = .ok (.iload_n 2, 1) := by decide +kernel
theorem dX7_distance_5 : decode cX7_distance 5 = .ok (.aload_n 0, 1) := by decide +kernel
theorem dX7_distance_6 : decode cX7_distance 6 = .ok (.getfield 10, 3) := by decide +kernel
theorem dX7_distance_9 : decode cX7_distance 9 = .ok (.invokevirtual 45, 3) := by decide +kernel
theorem dX7_distance_12 : decode cX7_distance 12 = .ok (.if_icmp .ge 38, 3) := by decide +kernel
theorem dX7_distance_15 : decode cX7_distance 15 = .ok (.aload_n 0, 1) := by decide +kernel
theorem dX7_distance_16 : decode cX7_distance 16 = .ok (.getfield 10, 3) := by decide +kernel
theorem dX7_distance_19 : decode cX7_distance 19 = .ok (.iload_n 2, 1) := by decide +kernel
theorem dX7_distance_20 : decode cX7_distance 20 = .ok (.invokevirtual 49, 3) := by decide +kernel
theorem dX7_distance_23 : decode cX7_distance 23 = .ok (.checkcast 34, 3) := by decide +kernel
theorem dX7_distance_26 : decode cX7_distance 26 = .ok (.astore_n 3, 1) := by decide +kernel
theorem dX7_distance_27 : decode cX7_distance 27 = .ok (.iload_n 1, 1) := by decide +kernel
theorem dX7_distance_28 : decode cX7_distance 28 = .ok (.aload_n 3, 1) := by decide +kernel
theorem dX7_distance_29 : decode cX7_distance 29 = .ok (.getfield 53, 3) := by decide +kernel
theorem dX7_distance_32 : decode cX7_distance 32 = .ok (.aload_n 3, 1) := by decide +kernel
theorem dX7_distance_33 : decode cX7_distance 33 = .ok (.getfield 38, 3) := by decide +kernel
theorem dX7_distance_36 : decode cX7_distance 36 = .ok (.aload_n 3, 1) := by decide +kernel
theorem dX7_distance_37 : decode cX7_distance 37 = .ok (.getfield 33, 3) := by decide +kernel
theorem dX7_distance_40 : decode cX7_distance 40 = .ok (.iadd, 1) := by decide +kernel
theorem dX7_distance_41 : decode cX7_distance 41 = .ok (.imul, 1) := by decide +kernel
theorem dX7_distance_42 : decode cX7_distance 42 = .ok (.iadd, 1) := by decide +kernel
theorem dX7_distance_43 : decode cX7_distance 43 = .ok (.istore_n 1, 1) := by decide +kernel
theorem dX7_distance_44 : decode cX7_distance 44 = .ok (.iinc 2 1, 3) := by decide +kernel
theorem dX7_distance_47 : decode cX7_distance 47 = .ok (.goto (-43), 3) := by decide +kernel
theorem dX7_distance_50 : decode cX7_distance 50 = .ok (.iload_n 1, 1) := by decide +kernel
theorem dX7_distance_51 : decode cX7_distance 51 = .ok (.ireturn, 1) := by decide +kernel
theorem dX8_init_0 : decode cX8_init 0 = .ok (.aload_n 0, 1) := by decide +kernel
theorem dX8_init_1 : decode cX8_init 1 = .ok (.invokespecial 1, 3) := by decide +kernel
theorem dX8_init_4 : decode cX8_init 4 = .ok (.aload_n 0, 1) := by decide +kernel
theorem dX8_init_5 : decode cX8_init 5 = .ok (.new 7, 3) := by decide +kernel
theorem dX8_init_8 : decode cX8_init 8 = .ok (.dup, 1) := by decide +kernel
theorem dX8_init_9 : decode cX8_init 9 = .ok (.invokespecial 9, 3) := by decide +kernel
theorem dX8_init_12 : decode cX8_init 12 = .ok (.putfield 10, 3) := by decide +kernel
theorem dX8_init_15 : decode cX8_init 15 = .ok (.aload_n 0, 1) := by decide +kernel
theorem dX8_init_16 : decode cX8_init 16 = .ok (.new 7, 3) := by decide +kernel
theorem dX8_init_19 : decode cX8_init 19 = .ok (.dup, 1) := by decide +kernel
theorem dX8_init_20 : decode cX8_init 20 = .ok (.invokespecial 9, 3) := by decide +kernel
theorem dX8_init_23 : decode cX8_init 23 = .ok (.putfield 16, 3) := by decide +kernel
theorem dX8_init_26 : decode cX8_init 26 = .ok (.aload_n 0, 1) := by decide +kernel
theorem dX8_init_27 : decode cX8_init 27 = .ok (.new 7, 3) := by decide +kernel
theorem dX8_init_30 : decode cX8_init 30 = .ok (.dup, 1) := by decide +kernel
theorem dX8_init_31 : decode cX8_init 31 = .ok (.invokespecial 9, 3) := by decide +kernel
theorem dX8_init_34 : decode cX8_init 34 = .ok (.putfield 19, 3) := by decide +kernel
theorem dX8_init_37 : decode cX8_init 37 = .ok (.aload_n 0, 1) := by decide +kernel
theorem dX8_init_38 : decode cX8_init 38 = .ok (.new 7, 3) := by decide +kernel
theorem dX8_init_41 : decode cX8_init 41 = .ok (.dup, 1) := by decide +kernel
theorem dX8_init_42 : decode cX8_init 42 = .ok (.invokespecial 9, 3) := by decide +kernel
theorem dX8_init_45 : decode cX8_init 45 = .ok (.putfield 22, 3) := by decide +kernel
theorem dX8_init_48 : decode cX8_init 48 = .ok (.aload_n 0, 1) := by decide +kernel
theorem dX8_init_49 : decode cX8_init 49 = .ok (.new 7, 3) := by decide +kernel
theorem dX8_init_52 : decode cX8_init 52 = .ok (.dup, 1) := by decide +kernel
theorem dX8_init_53 : decode cX8_init 53 = .ok (.invokespecial 9, 3) := by decide +kernel
theorem dX8_init_56 : decode cX8_init 56 = .ok (.putfield 25, 3) := by decide +kernel
theorem dX8_init_59 : decode cX8_init 59 = .ok (.aload_n 0, 1) := by decide +kernel
theorem dX8_init_60 : decode cX8_init 60 = .ok (.new 28, 3) := by decide +kernel
theorem dX8_init_63 : decode cX8_init 63 = .ok (.dup, 1) := by decide +kernel
theorem dX8_init_64 : decode cX8_init 64 = .ok (.invokespecial 30, 3) := by decide +kernel
theorem dX8_init_67 : decode cX8_init 67 = .ok (.putfield 31, 3) := by decide +kernel
theorem dX8_init_70 : decode cX8_init 70 = .ok (.aload_n 0, 1) := by decide +kernel
theorem dX8_init_71 : decode cX8_init 71 = .ok (.iconst 0, 1) := by decide +kernel
theorem dX8_init_72 : decode cX8_init 72 = .ok (.putfield 35, 3) := by decide +kernel
theorem dX8_init_75 : decode cX8_init 75 = .ok (.iconst 0, 1) := by decide +kernel
theorem dX8_init_76 : decode cX8_init 76 = .ok (.istore_n 1, 1) := by decide +kernel
theorem dX8_init_77 : decode cX8_init 77 = .ok (.iload_n 1, 1) := by decide +kernel
theorem dX8_init_78 : decode cX8_init 78 = .ok (.iconst 3, 1) := by decide +kernel
theorem dX8_init_79 : decode cX8_init 79 = .ok (.if_icmp .ge 24, 3) := by decide +kernel
theorem dX8_init_82 : decode cX8_init 82 = .ok (.aload_n 0, 1) := by decide +kernel
theorem dX8_init_83 : decode cX8_init 83 = .ok (.getfield 22, 3) := by decide +kernel
theorem dX8_init_86 : decode cX8_init 86 = .ok (.new 39, 3) := by decide +kernel
theorem dX8_init_89 : decode cX8_init 89 = .ok (.dup, 1) := by decide +kernel
theorem dX8_init_90 : decode cX8_init 90 = .ok (.invokespecial 41, 3) := by decide +kernel
theorem dX8_init_93 : decode cX8_init 93 = .ok (.invokevirtual 42, 3) := by decide +kernel
theorem dX8_init_96 : decode cX8_init 96 = .ok (.pop, 1) := by decide +kernel
theorem dX8_init_97 : decode cX8_init 97 = .ok (.iinc 1 1, 3) := by decide +kernel
theorem dX8_init_100 : decode cX8_init 100 = .ok (.goto (-23), 3) := by decide +kernel
theorem dX8_init_103 : decode cX8_init 103 = .ok (.return_, 1) := by decide +kernel
theorem dX8_addCutter_0 : decode cX8_addCutter 0 = .ok (.iload_n 1, 1) := by decide +kernel
theorem dX8_addCutter_1 : decode cX8_addCutter 1 = .ok (.invokestatic 46, 3) := by decide +kernel
theorem dX8_addCutter_4 : decode cX8_addCutter 4 = .ok (.ifCond .ne 20, 3) := by decide +kernel
theorem dX8_addCutter_7 : decode cX8_addCutter 7 = .ok (.iload_n 2, 1) := by decide +kernel
theorem dX8_addCutter_8 : decode cX8_addCutter 8 = .ok (.invokestatic 50, 3) := by decide +kernel
theorem dX8_addCutter_11 : decode cX8_addCutter 11 = .ok (.ifCond .ne 13, 3) := by decide +kernel
theorem dX8_addCutter_14 : decode cX8_addCutter 14 = .ok (.iload_n 3, 1) := by decide +kernel
theorem dX8_addCutter_15 : decode cX8_addCutter 15 = .ok (.iload_n 2, 1) := by decide +kernel
theorem dX8_addCutter_16 : decode cX8_addCutter 16 = .ok (.bipush 60, 2) := by decide +kernel
theorem dX8_addCutter_18 : decode cX8_addCutter 18 = .ok (.invokestatic 53, 3) := by decide +kernel
theorem dX8_addCutter_21 : decode cX8_addCutter 21 = .ok (.ifCond .eq 13, 3) := by decide +kernel
theorem dX8_addCutter_24 : decode cX8_addCutter 24 = .ok (.new 57, 3) := by decide +kernel
theorem dX8_addCutter_27 : decode cX8_addCutter 27 = .ok (.dup, 1) := by decide +kernel
theorem dX8_addCutter_28 : decode cX8_addCutter 28 = .ok (.ldc 59, 2) := by decide +kernel
theorem dX8_addCutter_30 : decode cX8_addCutter 30 = .ok (.invokespecial 61, 3) := by decide +kernel
theorem dX8_addCutter_33 : decode cX8_addCutter 33 = .ok (.athrow, 1) := by decide +kernel
theorem dX8_addCutter_34 : decode cX8_addCutter 34 = .ok (.aload_n 0, 1) := by decide +kernel
theorem dX8_addCutter_35 : decode cX8_addCutter 35 = .ok (.getfield 10, 3) := by decide +kernel
theorem dX8_addCutter_38 : decode cX8_addCutter 38 = .ok (.invokevirtual 64, 3) := by decide +kernel
theorem dX8_addCutter_41 : decode cX8_addCutter 41 = .ok (.bipush 10, 2) := by decide +kernel
theorem dX8_addCutter_43 : decode cX8_addCutter 43 = .ok (.if_icmp .lt 13, 3) := by decide +kernel
theorem dX8_addCutter_46 : decode cX8_addCutter 46 = .ok (.new 68, 3) := by decide +kernel
theorem dX8_addCutter_49 : decode cX8_addCutter 49 = .ok (.dup, 1) := by decide +kernel
theorem dX8_addCutter_50 : decode cX8_addCutter 50 = .ok (.ldc 70, 2) := by decide +kernel
theorem dX8_addCutter_52 : decode cX8_addCutter 52 = .ok (.invokespecial 72, 3) := by decide +kernel
theorem dX8_addCutter_55 : decode cX8_addCutter 55 = .ok (.athrow, 1) := by decide +kernel
theorem dX8_addCutter_56 : decode cX8_addCutter 56 = .ok (.aload_n 0, 1) := by decide +kernel
theorem dX8_addCutter_57 : decode cX8_addCutter 57 = .ok (.getfield 10, 3) := by decide +kernel
theorem dX8_addCutter_60 : decode cX8_addCutter 60 = .ok (.new 73, 3) := by decide +kernel
theorem dX8_addCutter_63 : decode cX8_addCutter 63 = .ok (.dup, 1) := by decide +kernel
theorem dX8_addCutter_64 : decode cX8_addCutter 64 = .ok (.iload_n 1, 1) := by decide +kernel
theorem dX8_addCutter_65 : decode cX8_addCutter 65 = .ok (.iload_n 2, 1) := by decide +kernel
theorem dX8_addCutter_66 : decode cX8_addCutter 66 = .ok (.iload_n 3, 1) := by decide +kernel
theorem dX8_addCutter_67 : decode cX8_addCutter 67 = .ok (.invokespecial 75, 3) := by decide +kernel
theorem dX8_addCutter_70 : decode cX8_addCutter 70 = .ok (.invokevirtual 42, 3) := by decide +kernel
theorem dX8_addCutter_73 : decode cX8_addCutter 73 = .ok (.pop, 1) := by decide +kernel
theorem dX8_addCutter_74 : decode cX8_addCutter 74 = .ok (.aload_n 0, 1) := by decide +kernel
theorem dX8_addCutter_75 : decode cX8_addCutter 75 = .ok (.getfield 10, 3) := by decide +kernel
theorem dX8_addCutter_78 : decode cX8_addCutter 78 = .ok (.invokevirtual 64, 3) := by decide +kernel
theorem dX8_addCutter_81 : decode cX8_addCutter 81 = .ok (.iconst 1, 1) := by decide +kernel
theorem dX8_addCutter_82 : decode cX8_addCutter 82 = .ok (.isub, 1) := by decide +kernel
theorem dX8_addCutter_83 : decode cX8_addCutter 83 = .ok (.ireturn, 1) := by decide +kernel
theorem dX8_cutterFor_0 : decode cX8_cutterFor 0 = .ok (.iload_n 1, 1) := by decide +kernel
theorem dX8_cutterFor_1 : decode cX8_cutterFor 1 = .ok (.invokestatic 46, 3) := by decide +kernel
theorem dX8_cutterFor_4 : decode cX8_cutterFor 4 = .ok (.ifCond .ne 10, 3) := by decide +kernel
theorem dX8_cutterFor_7 : decode cX8_cutterFor 7 = .ok (.iload_n 2, 1) := by decide +kernel
theorem dX8_cutterFor_8 : decode cX8_cutterFor 8 = .ok (.invokestatic 50, 3) := by decide +kernel
theorem dX8_cutterFor_11 : decode cX8_cutterFor 11 = .ok (.ifCond .eq 13, 3) := by decide +kernel
theorem dX8_cutterFor_14 : decode cX8_cutterFor 14 = .ok (.new 57, 3) := by decide +kernel
theorem dX8_cutterFor_17 : decode cX8_cutterFor 17 = .ok (.dup, 1) := by decide +kernel
theorem dX8_cutterFor_18 : decode cX8_cutterFor 18 = .ok (.ldc 78, 2) := by decide +kernel
theorem dX8_cutterFor_20 : decode cX8_cutterFor 20 = .ok (.invokespecial 61, 3) := by decide +kernel
theorem dX8_cutterFor_23 : decode cX8_cutterFor 23 = .ok (.athrow, 1) := by decide +kernel
theorem dX8_cutterFor_24 : decode cX8_cutterFor 24 = .ok (.aload_n 0, 1) := by decide +kernel
theorem dX8_cutterFor_25 : decode cX8_cutterFor 25 = .ok (.iload_n 1, 1) := by decide +kernel
theorem dX8_cutterFor_26 : decode cX8_cutterFor 26 = .ok (.iload_n 2, 1) := by decide +kernel
theorem dX8_cutterFor_27 : decode cX8_cutterFor 27 = .ok (.invokevirtual 80, 3) := by decide +kernel
theorem dX8_cutterFor_30 : decode cX8_cutterFor 30 = .ok (.ireturn, 1) := by decide +kernel
theorem dX8_stage_0 : decode cX8_stage 0 = .ok (.iload_n 1, 1) := by decide +kernel
theorem dX8_stage_1 : decode cX8_stage 1 = .ok (.invokestatic 46, 3) := by decide +kernel
theorem dX8_stage_4 : decode cX8_stage 4 = .ok (.ifCond .ne 17, 3) := by decide +kernel
theorem dX8_stage_7 : decode cX8_stage 7 = .ok (.iload_n 2, 1) := by decide +kernel
theorem dX8_stage_8 : decode cX8_stage 8 = .ok (.invokestatic 50, 3) := by decide +kernel
theorem dX8_stage_11 : decode cX8_stage 11 = .ok (.ifCond .ne 10, 3) := by decide +kernel
theorem dX8_stage_14 : decode cX8_stage 14 = .ok (.iload_n 3, 1) := by decide +kernel
theorem dX8_stage_15 : decode cX8_stage 15 = .ok (.invokestatic 50, 3) := by decide +kernel
theorem dX8_stage_18 : decode cX8_stage 18 = .ok (.ifCond .eq 13, 3) := by decide +kernel
theorem dX8_stage_21 : decode cX8_stage 21 = .ok (.new 57, 3) := by decide +kernel
theorem dX8_stage_24 : decode cX8_stage 24 = .ok (.dup, 1) := by decide +kernel
theorem dX8_stage_25 : decode cX8_stage 25 = .ok (.ldc 84, 2) := by decide +kernel
theorem dX8_stage_27 : decode cX8_stage 27 = .ok (.invokespecial 61, 3) := by decide +kernel
theorem dX8_stage_30 : decode cX8_stage 30 = .ok (.athrow, 1) := by decide +kernel
theorem dX8_stage_31 : decode cX8_stage 31 = .ok (.aload_n 0, 1) := by decide +kernel
theorem dX8_stage_32 : decode cX8_stage 32 = .ok (.getfield 31, 3) := by decide +kernel
theorem dX8_stage_35 : decode cX8_stage 35 = .ok (.getfield 86, 3) := by decide +kernel
theorem dX8_stage_38 : decode cX8_stage 38 = .ok (.invokevirtual 64, 3) := by decide +kernel
theorem dX8_stage_41 : decode cX8_stage 41 = .ok (.iconst 4, 1) := by decide +kernel
theorem dX8_stage_42 : decode cX8_stage 42 = .ok (.if_icmp .lt 13, 3) := by decide +kernel
theorem dX8_stage_45 : decode cX8_stage 45 = .ok (.new 68, 3) := by decide +kernel
theorem dX8_stage_48 : decode cX8_stage 48 = .ok (.dup, 1) := by decide +kernel
theorem dX8_stage_49 : decode cX8_stage 49 = .ok (.ldc 89, 2) := by decide +kernel
theorem dX8_stage_51 : decode cX8_stage 51 = .ok (.invokespecial 72, 3) := by decide +kernel
theorem dX8_stage_54 : decode cX8_stage 54 = .ok (.athrow, 1) := by decide +kernel
theorem dX8_stage_55 : decode cX8_stage 55 = .ok (.aload_n 0, 1) := by decide +kernel
theorem dX8_stage_56 : decode cX8_stage 56 = .ok (.getfield 31, 3) := by decide +kernel
theorem dX8_stage_59 : decode cX8_stage 59 = .ok (.new 91, 3) := by decide +kernel
theorem dX8_stage_62 : decode cX8_stage 62 = .ok (.dup, 1) := by decide +kernel
theorem dX8_stage_63 : decode cX8_stage 63 = .ok (.iload_n 1, 1) := by decide +kernel
theorem dX8_stage_64 : decode cX8_stage 64 = .ok (.iload_n 2, 1) := by decide +kernel
theorem dX8_stage_65 : decode cX8_stage 65 = .ok (.iload_n 3, 1) := by decide +kernel
theorem dX8_stage_66 : decode cX8_stage 66 = .ok (.invokespecial 93, 3) := by decide +kernel
theorem dX8_stage_69 : decode cX8_stage 69 = .ok (.invokevirtual 94, 3) := by decide +kernel
theorem dX8_stage_72 : decode cX8_stage 72 = .ok (.aload_n 0, 1) := by decide +kernel
theorem dX8_stage_73 : decode cX8_stage 73 = .ok (.getfield 31, 3) := by decide +kernel
theorem dX8_stage_76 : decode cX8_stage 76 = .ok (.invokevirtual 98, 3) := by decide +kernel
theorem dX8_stage_79 : decode cX8_stage 79 = .ok (.ireturn, 1) := by decide +kernel
theorem dX8_scrap_0 : decode cX8_scrap 0 = .ok (.aload_n 0, 1) := by decide +kernel
theorem dX8_scrap_1 : decode cX8_scrap 1 = .ok (.getfield 31, 3) := by decide +kernel
theorem dX8_scrap_4 : decode cX8_scrap 4 = .ok (.getfield 86, 3) := by decide +kernel
theorem dX8_scrap_7 : decode cX8_scrap 7 = .ok (.invokevirtual 64, 3) := by decide +kernel
theorem dX8_scrap_10 : decode cX8_scrap 10 = .ok (.istore_n 1, 1) := by decide +kernel
theorem dX8_scrap_11 : decode cX8_scrap 11 = .ok (.aload_n 0, 1) := by decide +kernel
theorem dX8_scrap_12 : decode cX8_scrap 12 = .ok (.new 28, 3) := by decide +kernel
theorem dX8_scrap_15 : decode cX8_scrap 15 = .ok (.dup, 1) := by decide +kernel
theorem dX8_scrap_16 : decode cX8_scrap 16 = .ok (.invokespecial 30, 3) := by decide +kernel
theorem dX8_scrap_19 : decode cX8_scrap 19 = .ok (.putfield 31, 3) := by decide +kernel
theorem dX8_scrap_22 : decode cX8_scrap 22 = .ok (.iload_n 1, 1) := by decide +kernel
theorem dX8_scrap_23 : decode cX8_scrap 23 = .ok (.ireturn, 1) := by decide +kernel
theorem dX8_make_0 : decode cX8_make 0 = .ok (.aload_n 0, 1) := by decide +kernel
theorem dX8_make_1 : decode cX8_make 1 = .ok (.getfield 31, 3) := by decide +kernel
theorem dX8_make_4 : decode cX8_make 4 = .ok (.getfield 86, 3) := by decide +kernel
theorem dX8_make_7 : decode cX8_make 7 = .ok (.invokevirtual 101, 3) := by decide +kernel
theorem dX8_make_10 : decode cX8_make 10 = .ok (.ifCond .eq 13, 3) := by decide +kernel
theorem dX8_make_13 : decode cX8_make 13 = .ok (.new 68, 3) := by decide +kernel
theorem dX8_make_16 : decode cX8_make 16 = .ok (.dup, 1) := by decide +kernel
theorem dX8_make_17 : decode cX8_make 17 = .ok (.ldc 105, 2) := by decide +kernel
theorem dX8_make_19 : decode cX8_make 19 = .ok (.invokespecial 72, 3) := by decide +kernel
theorem dX8_make_22 : decode cX8_make 22 = .ok (.athrow, 1) := by decide +kernel
theorem dX8_make_23 : decode cX8_make 23 = .ok (.aload_n 0, 1) := by decide +kernel
theorem dX8_make_24 : decode cX8_make 24 = .ok (.getfield 31, 3) := by decide +kernel
theorem dX8_make_27 : decode cX8_make 27 = .ok (.invokevirtual 98, 3) := by decide +kernel
theorem dX8_make_30 : decode cX8_make 30 = .ok (.iload_n 1, 1) := by decide +kernel
theorem dX8_make_31 : decode cX8_make 31 = .ok (.if_icmp .eq 13, 3) := by decide +kernel
theorem dX8_make_34 : decode cX8_make 34 = .ok (.new 68, 3) := by decide +kernel
theorem dX8_make_37 : decode cX8_make 37 = .ok (.dup, 1) := by decide +kernel
theorem dX8_make_38 : decode cX8_make 38 = .ok (.ldc 107, 2) := by decide +kernel
theorem dX8_make_40 : decode cX8_make 40 = .ok (.invokespecial 72, 3) := by decide +kernel
theorem dX8_make_43 : decode cX8_make 43 = .ok (.athrow, 1) := by decide +kernel
theorem dX8_make_44 : decode cX8_make 44 = .ok (.aload_n 0, 1) := by decide +kernel
theorem dX8_make_45 : decode cX8_make 45 = .ok (.aload_n 0, 1) := by decide +kernel
theorem dX8_make_46 : decode cX8_make 46 = .ok (.getfield 31, 3) := by decide +kernel
theorem dX8_make_49 : decode cX8_make 49 = .ok (.invokevirtual 109, 3) := by decide +kernel
theorem dX8_make_52 : decode cX8_make 52 = .ok (.ifCond .ne 13, 3) := by decide +kernel
theorem dX8_make_55 : decode cX8_make 55 = .ok (.new 68, 3) := by decide +kernel
theorem dX8_make_58 : decode cX8_make 58 = .ok (.dup, 1) := by decide +kernel
theorem dX8_make_59 : decode cX8_make 59 = .ok (.ldc 113, 2) := by decide +kernel
theorem dX8_make_61 : decode cX8_make 61 = .ok (.invokespecial 72, 3) := by decide +kernel
theorem dX8_make_64 : decode cX8_make 64 = .ok (.athrow, 1) := by decide +kernel
theorem dX8_make_65 : decode cX8_make 65 = .ok (.aload_n 0, 1) := by decide +kernel
theorem dX8_make_66 : decode cX8_make 66 = .ok (.getfield 16, 3) := by decide +kernel
theorem dX8_make_69 : decode cX8_make 69 = .ok (.invokevirtual 64, 3) := by decide +kernel
theorem dX8_make_72 : decode cX8_make 72 = .ok (.bipush 8, 2) := by decide +kernel
theorem dX8_make_74 : decode cX8_make 74 = .ok (.if_icmp .lt 13, 3) := by decide +kernel
theorem dX8_make_77 : decode cX8_make 77 = .ok (.new 68, 3) := by decide +kernel
theorem dX8_make_80 : decode cX8_make 80 = .ok (.dup, 1) := by decide +kernel
theorem dX8_make_81 : decode cX8_make 81 = .ok (.ldc 115, 2) := by decide +kernel
theorem dX8_make_83 : decode cX8_make 83 = .ok (.invokespecial 72, 3) := by decide +kernel
theorem dX8_make_86 : decode cX8_make 86 = .ok (.athrow, 1) := by decide +kernel
theorem dX8_make_87 : decode cX8_make 87 = .ok (.aload_n 0, 1) := by decide +kernel
theorem dX8_make_88 : decode cX8_make 88 = .ok (.getfield 16, 3) := by decide +kernel
theorem dX8_make_91 : decode cX8_make 91 = .ok (.aload_n 0, 1) := by decide +kernel
theorem dX8_make_92 : decode cX8_make 92 = .ok (.getfield 31, 3) := by decide +kernel
theorem dX8_make_95 : decode cX8_make 95 = .ok (.invokevirtual 42, 3) := by decide +kernel
theorem dX8_make_98 : decode cX8_make 98 = .ok (.pop, 1) := by decide +kernel
theorem dX8_make_99 : decode cX8_make 99 = .ok (.aload_n 0, 1) := by decide +kernel
theorem dX8_make_100 : decode cX8_make 100 = .ok (.new 28, 3) := by decide +kernel
theorem dX8_make_103 : decode cX8_make 103 = .ok (.dup, 1) := by decide +kernel
theorem dX8_make_104 : decode cX8_make 104 = .ok (.invokespecial 30, 3) := by decide +kernel
theorem dX8_make_107 : decode cX8_make 107 = .ok (.putfield 31, 3) := by decide +kernel
theorem dX8_make_110 : decode cX8_make 110 = .ok (.aload_n 0, 1) := by decide +kernel
theorem dX8_make_111 : decode cX8_make 111 = .ok (.getfield 16, 3) := by decide +kernel
theorem dX8_make_114 : decode cX8_make 114 = .ok (.invokevirtual 64, 3) := by decide +kernel
theorem dX8_make_117 : decode cX8_make 117 = .ok (.iconst 1, 1) := by decide +kernel
theorem dX8_make_118 : decode cX8_make 118 = .ok (.isub, 1) := by decide +kernel
theorem dX8_make_119 : decode cX8_make 119 = .ok (.ireturn, 1) := by decide +kernel
theorem dX8_numerator_0 : decode cX8_numerator 0 = .ok (.aload_n 0, 1) := by decide +kernel
theorem dX8_numerator_1 : decode cX8_numerator 1 = .ok (.iload_n 1, 1) := by decide +kernel
theorem dX8_numerator_2 : decode cX8_numerator 2 = .ok (.invokevirtual 117, 3) := by decide +kernel
theorem dX8_numerator_5 : decode cX8_numerator 5 = .ok (.getfield 121, 3) := by decide +kernel
theorem dX8_numerator_8 : decode cX8_numerator 8 = .ok (.getfield 125, 3) := by decide +kernel
theorem dX8_numerator_11 : decode cX8_numerator 11 = .ok (.l2i, 1) := by decide +kernel
theorem dX8_numerator_12 : decode cX8_numerator 12 = .ok (.ireturn, 1) := by decide +kernel
theorem dX8_denominator_0 : decode cX8_denominator 0 = .ok (.aload_n 0, 1) := by decide +kernel
theorem dX8_denominator_1 : decode cX8_denominator 1 = .ok (.iload_n 1, 1) := by decide +kernel
theorem dX8_denominator_2 : decode cX8_denominator 2 = .ok (.invokevirtual 117, 3) := by decide +kernel
theorem dX8_denominator_5 : decode cX8_denominator 5 = .ok (.getfield 121, 3) := by decide +kernel
theorem dX8_denominator_8 : decode cX8_denominator 8 = .ok (.getfield 131, 3) := by decide +kernel
theorem dX8_denominator_11 : decode cX8_denominator 11 = .ok (.l2i, 1) := by decide +kernel
theorem dX8_denominator_12 : decode cX8_denominator 12 = .ok (.ireturn, 1) := by decide +kernel
theorem dX8_turned_0 : decode cX8_turned 0 = .ok (.aload_n 0, 1) := by decide +kernel
theorem dX8_turned_1 : decode cX8_turned 1 = .ok (.iload_n 1, 1) := by decide +kernel
theorem dX8_turned_2 : decode cX8_turned 2 = .ok (.invokevirtual 117, 3) := by decide +kernel
theorem dX8_turned_5 : decode cX8_turned 5 = .ok (.getfield 121, 3) := by decide +kernel
theorem dX8_turned_8 : decode cX8_turned 8 = .ok (.astore_n 3, 1) := by decide +kernel
theorem dX8_turned_9 : decode cX8_turned 9 = .ok (.iload_n 2, 1) := by decide +kernel
theorem dX8_turned_10 : decode cX8_turned 10 = .ok (.invokestatic 134, 3) := by decide +kernel
theorem dX8_turned_13 : decode cX8_turned 13 = .ok (.new 126, 3) := by decide +kernel
theorem dX8_turned_16 : decode cX8_turned 16 = .ok (.dup, 1) := by decide +kernel
theorem dX8_turned_17 : decode cX8_turned 17 = .ok (.iload_n 2, 1) := by decide +kernel
theorem dX8_turned_18 : decode cX8_turned 18 = .ok (.i2l, 1) := by decide +kernel
theorem dX8_turned_19 : decode cX8_turned 19 = .ok (.invokespecial 138, 3) := by decide +kernel
theorem dX8_turned_22 : decode cX8_turned 22 = .ok (.astore 4, 2) := by decide +kernel
theorem dX8_turned_24 : decode cX8_turned 24 = .ok (.aload 4, 2) := by decide +kernel
theorem dX8_turned_26 : decode cX8_turned 26 = .ok (.aload_n 3, 1) := by decide +kernel
theorem dX8_turned_27 : decode cX8_turned 27 = .ok (.getfield 131, 3) := by decide +kernel
theorem dX8_turned_30 : decode cX8_turned 30 = .ok (.aload_n 3, 1) := by decide +kernel
theorem dX8_turned_31 : decode cX8_turned 31 = .ok (.getfield 125, 3) := by decide +kernel
theorem dX8_turned_34 : decode cX8_turned 34 = .ok (.invokevirtual 141, 3) := by decide +kernel
theorem dX8_turned_37 : decode cX8_turned 37 = .ok (.aload 4, 2) := by decide +kernel
theorem dX8_turned_39 : decode cX8_turned 39 = .ok (.invokevirtual 145, 3) := by decide +kernel
theorem dX8_turned_42 : decode cX8_turned 42 = .ok (.ireturn, 1) := by decide +kernel
theorem dX8_turnedByWalk_0 : decode cX8_turnedByWalk 0 = .ok (.aload_n 0, 1) := by decide +kernel
theorem dX8_turnedByWalk_1 : decode cX8_turnedByWalk 1 = .ok (.iload_n 1, 1) := by decide +kernel
theorem dX8_turnedByWalk_2 : decode cX8_turnedByWalk 2 = .ok (.invokevirtual 117, 3) := by decide +kernel
theorem dX8_turnedByWalk_5 : decode cX8_turnedByWalk 5 = .ok (.getfield 86, 3) := by decide +kernel
theorem dX8_turnedByWalk_8 : decode cX8_turnedByWalk 8 = .ok (.astore_n 3, 1) := by decide +kernel
theorem dX8_turnedByWalk_9 : decode cX8_turnedByWalk 9 = .ok (.iload_n 2, 1) := by decide +kernel
theorem dX8_turnedByWalk_10 : decode cX8_turnedByWalk 10 = .ok (.invokestatic 134, 3) := by decide +kernel
theorem dX8_turnedByWalk_13 : decode cX8_turnedByWalk 13 = .ok (.new 126, 3) := by decide +kernel
theorem dX8_turnedByWalk_16 : decode cX8_turnedByWalk 16 = .ok (.dup, 1) := by decide +kernel
theorem dX8_turnedByWalk_17 : decode cX8_turnedByWalk 17 = .ok (.iload_n 2, 1) := by decide +kernel
theorem dX8_turnedByWalk_18 : decode cX8_turnedByWalk 18 = .ok (.i2l, 1) := by decide +kernel
theorem dX8_turnedByWalk_19 : decode cX8_turnedByWalk 19 = .ok (.invokespecial 138, 3) := by decide +kernel
theorem dX8_turnedByWalk_22 : decode cX8_turnedByWalk 22 = .ok (.astore 4, 2) := by decide +kernel
theorem dX8_turnedByWalk_24 : decode cX8_turnedByWalk 24 = .ok (.iconst 0, 1) := by decide +kernel
theorem dX8_turnedByWalk_25 : decode cX8_turnedByWalk 25 = .ok (.istore 5, 2) := by decide +kernel
theorem dX8_turnedByWalk_27 : decode cX8_turnedByWalk 27 = .ok (.iload 5, 2) := by decide +kernel
theorem dX8_turnedByWalk_29 : decode cX8_turnedByWalk 29 = .ok (.aload_n 3, 1) := by decide +kernel
theorem dX8_turnedByWalk_30 : decode cX8_turnedByWalk 30 = .ok (.invokevirtual 64, 3) := by decide +kernel
theorem dX8_turnedByWalk_33 : decode cX8_turnedByWalk 33 = .ok (.if_icmp .ge 40, 3) := by decide +kernel
theorem dX8_turnedByWalk_36 : decode cX8_turnedByWalk 36 = .ok (.aload 4, 2) := by decide +kernel
theorem dX8_turnedByWalk_38 : decode cX8_turnedByWalk 38 = .ok (.aload_n 3, 1) := by decide +kernel
theorem dX8_turnedByWalk_39 : decode cX8_turnedByWalk 39 = .ok (.iload 5, 2) := by decide +kernel
theorem dX8_turnedByWalk_41 : decode cX8_turnedByWalk 41 = .ok (.invokevirtual 148, 3) := by decide +kernel
theorem dX8_turnedByWalk_44 : decode cX8_turnedByWalk 44 = .ok (.checkcast 91, 3) := by decide +kernel
theorem dX8_turnedByWalk_47 : decode cX8_turnedByWalk 47 = .ok (.getfield 152, 3) := by decide +kernel
theorem dX8_turnedByWalk_50 : decode cX8_turnedByWalk 50 = .ok (.i2l, 1) := by decide +kernel
theorem dX8_turnedByWalk_51 : decode cX8_turnedByWalk 51 = .ok (.aload_n 3, 1) := by decide +kernel
theorem dX8_turnedByWalk_52 : decode cX8_turnedByWalk 52 = .ok (.iload 5, 2) := by decide +kernel
theorem dX8_turnedByWalk_54 : decode cX8_turnedByWalk 54 = .ok (.invokevirtual 148, 3) := by decide +kernel
theorem dX8_turnedByWalk_57 : decode cX8_turnedByWalk 57 = .ok (.checkcast 91, 3) := by decide +kernel
theorem dX8_turnedByWalk_60 : decode cX8_turnedByWalk 60 = .ok (.getfield 155, 3) := by decide +kernel
theorem dX8_turnedByWalk_63 : decode cX8_turnedByWalk 63 = .ok (.i2l, 1) := by decide +kernel
theorem dX8_turnedByWalk_64 : decode cX8_turnedByWalk 64 = .ok (.invokevirtual 141, 3) := by decide +kernel
theorem dX8_turnedByWalk_67 : decode cX8_turnedByWalk 67 = .ok (.iinc 5 1, 3) := by decide +kernel
theorem dX8_turnedByWalk_70 : decode cX8_turnedByWalk 70 = .ok (.goto (-43), 3) := by decide +kernel
theorem dX8_turnedByWalk_73 : decode cX8_turnedByWalk 73 = .ok (.aload 4, 2) := by decide +kernel
theorem dX8_turnedByWalk_75 : decode cX8_turnedByWalk 75 = .ok (.invokevirtual 145, 3) := by decide +kernel
theorem dX8_turnedByWalk_78 : decode cX8_turnedByWalk 78 = .ok (.ireturn, 1) := by decide +kernel
theorem dX8_order_0 : decode cX8_order 0 = .ok (.aload_n 0, 1) := by decide +kernel
theorem dX8_order_1 : decode cX8_order 1 = .ok (.iload_n 1, 1) := by decide +kernel
theorem dX8_order_2 : decode cX8_order 2 = .ok (.invokevirtual 117, 3) := by decide +kernel
theorem dX8_order_5 : decode cX8_order 5 = .ok (.astore_n 2, 1) := by decide +kernel
theorem dX8_order_6 : decode cX8_order 6 = .ok (.aload_n 0, 1) := by decide +kernel
theorem dX8_order_7 : decode cX8_order 7 = .ok (.getfield 19, 3) := by decide +kernel
theorem dX8_order_10 : decode cX8_order 10 = .ok (.invokevirtual 64, 3) := by decide +kernel
theorem dX8_order_13 : decode cX8_order 13 = .ok (.bipush 12, 2) := by decide +kernel
theorem dX8_order_15 : decode cX8_order 15 = .ok (.if_icmp .lt 13, 3) := by decide +kernel
theorem dX8_order_18 : decode cX8_order 18 = .ok (.new 68, 3) := by decide +kernel
theorem dX8_order_21 : decode cX8_order 21 = .ok (.dup, 1) := by decide +kernel
theorem dX8_order_22 : decode cX8_order 22 = .ok (.ldc 158, 2) := by decide +kernel
theorem dX8_order_24 : decode cX8_order 24 = .ok (.invokespecial 72, 3) := by decide +kernel
theorem dX8_order_27 : decode cX8_order 27 = .ok (.athrow, 1) := by decide +kernel
theorem dX8_order_28 : decode cX8_order 28 = .ok (.new 160, 3) := by decide +kernel
theorem dX8_order_31 : decode cX8_order 31 = .ok (.dup, 1) := by decide +kernel
theorem dX8_order_32 : decode cX8_order 32 = .ok (.aload_n 2, 1) := by decide +kernel
theorem dX8_order_33 : decode cX8_order 33 = .ok (.invokespecial 162, 3) := by decide +kernel
theorem dX8_order_36 : decode cX8_order 36 = .ok (.astore_n 3, 1) := by decide +kernel
theorem dX8_order_37 : decode cX8_order 37 = .ok (.aload_n 0, 1) := by decide +kernel
theorem dX8_order_38 : decode cX8_order 38 = .ok (.getfield 19, 3) := by decide +kernel
theorem dX8_order_41 : decode cX8_order 41 = .ok (.aload_n 3, 1) := by decide +kernel
theorem dX8_order_42 : decode cX8_order 42 = .ok (.invokevirtual 42, 3) := by decide +kernel
theorem dX8_order_45 : decode cX8_order 45 = .ok (.pop, 1) := by decide +kernel
theorem dX8_order_46 : decode cX8_order 46 = .ok (.iconst 0, 1) := by decide +kernel
theorem dX8_order_47 : decode cX8_order 47 = .ok (.istore 4, 2) := by decide +kernel
theorem dX8_order_49 : decode cX8_order 49 = .ok (.iload 4, 2) := by decide +kernel
theorem dX8_order_51 : decode cX8_order 51 = .ok (.aload_n 2, 1) := by decide +kernel
theorem dX8_order_52 : decode cX8_order 52 = .ok (.getfield 86, 3) := by decide +kernel
theorem dX8_order_55 : decode cX8_order 55 = .ok (.invokevirtual 64, 3) := by decide +kernel
theorem dX8_order_58 : decode cX8_order 58 = .ok (.if_icmp .ge 53, 3) := by decide +kernel
theorem dX8_order_61 : decode cX8_order 61 = .ok (.aload_n 2, 1) := by decide +kernel
theorem dX8_order_62 : decode cX8_order 62 = .ok (.getfield 86, 3) := by decide +kernel
theorem dX8_order_65 : decode cX8_order 65 = .ok (.iload 4, 2) := by decide +kernel
theorem dX8_order_67 : decode cX8_order 67 = .ok (.invokevirtual 148, 3) := by decide +kernel
theorem dX8_order_70 : decode cX8_order 70 = .ok (.checkcast 91, 3) := by decide +kernel
theorem dX8_order_73 : decode cX8_order 73 = .ok (.astore 5, 2) := by decide +kernel
theorem dX8_order_75 : decode cX8_order 75 = .ok (.aload_n 0, 1) := by decide +kernel
theorem dX8_order_76 : decode cX8_order 76 = .ok (.aload_n 3, 1) := by decide +kernel
theorem dX8_order_77 : decode cX8_order 77 = .ok (.aload 5, 2) := by decide +kernel
theorem dX8_order_79 : decode cX8_order 79 = .ok (.getfield 165, 3) := by decide +kernel
theorem dX8_order_82 : decode cX8_order 82 = .ok (.aload 5, 2) := by decide +kernel
theorem dX8_order_84 : decode cX8_order 84 = .ok (.getfield 152, 3) := by decide +kernel
theorem dX8_order_87 : decode cX8_order 87 = .ok (.invokevirtual 168, 3) := by decide +kernel
theorem dX8_order_90 : decode cX8_order 90 = .ok (.aload_n 0, 1) := by decide +kernel
theorem dX8_order_91 : decode cX8_order 91 = .ok (.aload_n 3, 1) := by decide +kernel
theorem dX8_order_92 : decode cX8_order 92 = .ok (.aload 5, 2) := by decide +kernel
theorem dX8_order_94 : decode cX8_order 94 = .ok (.getfield 165, 3) := by decide +kernel
theorem dX8_order_97 : decode cX8_order 97 = .ok (.aload 5, 2) := by decide +kernel
theorem dX8_order_99 : decode cX8_order 99 = .ok (.getfield 155, 3) := by decide +kernel
theorem dX8_order_102 : decode cX8_order 102 = .ok (.invokevirtual 168, 3) := by decide +kernel
theorem dX8_order_105 : decode cX8_order 105 = .ok (.iinc 4 1, 3) := by decide +kernel
theorem dX8_order_108 : decode cX8_order 108 = .ok (.goto (-59), 3) := by decide +kernel
theorem dX8_order_111 : decode cX8_order 111 = .ok (.aload_n 0, 1) := by decide +kernel
theorem dX8_order_112 : decode cX8_order 112 = .ok (.getfield 19, 3) := by decide +kernel
theorem dX8_order_115 : decode cX8_order 115 = .ok (.invokevirtual 64, 3) := by decide +kernel
theorem dX8_order_118 : decode cX8_order 118 = .ok (.iconst 1, 1) := by decide +kernel
theorem dX8_order_119 : decode cX8_order 119 = .ok (.isub, 1) := by decide +kernel
theorem dX8_order_120 : decode cX8_order 120 = .ok (.ireturn, 1) := by decide +kernel
theorem dX8_pass_0 : decode cX8_pass 0 = .ok (.iload_n 1, 1) := by decide +kernel
theorem dX8_pass_1 : decode cX8_pass 1 = .ok (.iconst 1, 1) := by decide +kernel
theorem dX8_pass_2 : decode cX8_pass 2 = .ok (.sipush 200, 3) := by decide +kernel
theorem dX8_pass_5 : decode cX8_pass 5 = .ok (.invokestatic 53, 3) := by decide +kernel
theorem dX8_pass_8 : decode cX8_pass 8 = .ok (.ifCond .eq 13, 3) := by decide +kernel
theorem dX8_pass_11 : decode cX8_pass 11 = .ok (.new 57, 3) := by decide +kernel
theorem dX8_pass_14 : decode cX8_pass 14 = .ok (.dup, 1) := by decide +kernel
theorem dX8_pass_15 : decode cX8_pass 15 = .ok (.ldc 172, 2) := by decide +kernel
theorem dX8_pass_17 : decode cX8_pass 17 = .ok (.invokespecial 61, 3) := by decide +kernel
theorem dX8_pass_20 : decode cX8_pass 20 = .ok (.athrow, 1) := by decide +kernel
theorem dX8_pass_21 : decode cX8_pass 21 = .ok (.iconst 0, 1) := by decide +kernel
theorem dX8_pass_22 : decode cX8_pass 22 = .ok (.istore_n 2, 1) := by decide +kernel
theorem dX8_pass_23 : decode cX8_pass 23 = .ok (.iconst 0, 1) := by decide +kernel
theorem dX8_pass_24 : decode cX8_pass 24 = .ok (.istore_n 3, 1) := by decide +kernel
theorem dX8_pass_25 : decode cX8_pass 25 = .ok (.iload_n 3, 1) := by decide +kernel
theorem dX8_pass_26 : decode cX8_pass 26 = .ok (.iload_n 1, 1) := by decide +kernel
theorem dX8_pass_27 : decode cX8_pass 27 = .ok (.if_icmp .ge 30, 3) := by decide +kernel
theorem dX8_pass_30 : decode cX8_pass 30 = .ok (.aload_n 0, 1) := by decide +kernel
theorem dX8_pass_31 : decode cX8_pass 31 = .ok (.dup, 1) := by decide +kernel
theorem dX8_pass_32 : decode cX8_pass 32 = .ok (.getfield 35, 3) := by decide +kernel
theorem dX8_pass_35 : decode cX8_pass 35 = .ok (.iconst 1, 1) := by decide +kernel
theorem dX8_pass_36 : decode cX8_pass 36 = .ok (.iadd, 1) := by decide +kernel
theorem dX8_pass_37 : decode cX8_pass 37 = .ok (.putfield 35, 3) := by decide +kernel
theorem dX8_pass_40 : decode cX8_pass 40 = .ok (.aload_n 0, 1) := by decide +kernel
theorem dX8_pass_41 : decode cX8_pass 41 = .ok (.invokevirtual 174, 3) := by decide +kernel
theorem dX8_pass_44 : decode cX8_pass 44 = .ok (.iload_n 2, 1) := by decide +kernel
theorem dX8_pass_45 : decode cX8_pass 45 = .ok (.aload_n 0, 1) := by decide +kernel
theorem dX8_pass_46 : decode cX8_pass 46 = .ok (.invokevirtual 177, 3) := by decide +kernel
theorem dX8_pass_49 : decode cX8_pass 49 = .ok (.iadd, 1) := by decide +kernel
theorem dX8_pass_50 : decode cX8_pass 50 = .ok (.istore_n 2, 1) := by decide +kernel
theorem dX8_pass_51 : decode cX8_pass 51 = .ok (.iinc 3 1, 3) := by decide +kernel
theorem dX8_pass_54 : decode cX8_pass 54 = .ok (.goto (-29), 3) := by decide +kernel
theorem dX8_pass_57 : decode cX8_pass 57 = .ok (.iload_n 2, 1) := by decide +kernel
theorem dX8_pass_58 : decode cX8_pass 58 = .ok (.ireturn, 1) := by decide +kernel
theorem dX8_time_0 : decode cX8_time 0 = .ok (.aload_n 0, 1) := by decide +kernel
theorem dX8_time_1 : decode cX8_time 1 = .ok (.getfield 35, 3) := by decide +kernel
theorem dX8_time_4 : decode cX8_time 4 = .ok (.ireturn, 1) := by decide +kernel
theorem dX8_waiting_0 : decode cX8_waiting 0 = .ok (.aload_n 0, 1) := by decide +kernel
theorem dX8_waiting_1 : decode cX8_waiting 1 = .ok (.getfield 25, 3) := by decide +kernel
theorem dX8_waiting_4 : decode cX8_waiting 4 = .ok (.invokevirtual 64, 3) := by decide +kernel
theorem dX8_waiting_7 : decode cX8_waiting 7 = .ok (.ireturn, 1) := by decide +kernel
theorem dX8_cutterOn_0 : decode cX8_cutterOn 0 = .ok (.aload_n 0, 1) := by decide +kernel
theorem dX8_cutterOn_1 : decode cX8_cutterOn 1 = .ok (.iload_n 1, 1) := by decide +kernel
theorem dX8_cutterOn_2 : decode cX8_cutterOn 2 = .ok (.invokevirtual 180, 3) := by decide +kernel
theorem dX8_cutterOn_5 : decode cX8_cutterOn 5 = .ok (.getfield 184, 3) := by decide +kernel
theorem dX8_cutterOn_8 : decode cX8_cutterOn 8 = .ok (.ireturn, 1) := by decide +kernel
theorem dX8_ticksLeft_0 : decode cX8_ticksLeft 0 = .ok (.aload_n 0, 1) := by decide +kernel
theorem dX8_ticksLeft_1 : decode cX8_ticksLeft 1 = .ok (.iload_n 1, 1) := by decide +kernel
theorem dX8_ticksLeft_2 : decode cX8_ticksLeft 2 = .ok (.invokevirtual 180, 3) := by decide +kernel
theorem dX8_ticksLeft_5 : decode cX8_ticksLeft 5 = .ok (.getfield 187, 3) := by decide +kernel
theorem dX8_ticksLeft_8 : decode cX8_ticksLeft 8 = .ok (.ireturn, 1) := by decide +kernel
theorem dX8_gearsLeft_0 : decode cX8_gearsLeft 0 = .ok (.aload_n 0, 1) := by decide +kernel
theorem dX8_gearsLeft_1 : decode cX8_gearsLeft 1 = .ok (.iload_n 1, 1) := by decide +kernel
theorem dX8_gearsLeft_2 : decode cX8_gearsLeft 2 = .ok (.invokevirtual 190, 3) := by decide +kernel
theorem dX8_gearsLeft_5 : decode cX8_gearsLeft 5 = .ok (.getfield 194, 3) := by decide +kernel
theorem dX8_gearsLeft_8 : decode cX8_gearsLeft 8 = .ok (.ireturn, 1) := by decide +kernel
theorem dX8_doneAt_0 : decode cX8_doneAt 0 = .ok (.aload_n 0, 1) := by decide +kernel
theorem dX8_doneAt_1 : decode cX8_doneAt 1 = .ok (.iload_n 1, 1) := by decide +kernel
theorem dX8_doneAt_2 : decode cX8_doneAt 2 = .ok (.invokevirtual 190, 3) := by decide +kernel
theorem dX8_doneAt_5 : decode cX8_doneAt 5 = .ok (.getfield 197, 3) := by decide +kernel
theorem dX8_doneAt_8 : decode cX8_doneAt 8 = .ok (.ireturn, 1) := by decide +kernel
theorem dX8_test_0 : decode cX8_test 0 = .ok (.aload_n 0, 1) := by decide +kernel
theorem dX8_test_1 : decode cX8_test 1 = .ok (.iload_n 1, 1) := by decide +kernel
theorem dX8_test_2 : decode cX8_test 2 = .ok (.invokevirtual 190, 3) := by decide +kernel
theorem dX8_test_5 : decode cX8_test 5 = .ok (.astore 4, 2) := by decide +kernel
theorem dX8_test_7 : decode cX8_test 7 = .ok (.iload_n 2, 1) := by decide +kernel
theorem dX8_test_8 : decode cX8_test 8 = .ok (.iconst 1, 1) := by decide +kernel
theorem dX8_test_9 : decode cX8_test 9 = .ok (.bipush 100, 2) := by decide +kernel
theorem dX8_test_11 : decode cX8_test 11 = .ok (.invokestatic 53, 3) := by decide +kernel
theorem dX8_test_14 : decode cX8_test 14 = .ok (.ifCond .ne 13, 3) := by decide +kernel
theorem dX8_test_17 : decode cX8_test 17 = .ok (.iload_n 3, 1) := by decide +kernel
theorem dX8_test_18 : decode cX8_test 18 = .ok (.iconst 1, 1) := by decide +kernel
theorem dX8_test_19 : decode cX8_test 19 = .ok (.bipush 100, 2) := by decide +kernel
theorem dX8_test_21 : decode cX8_test 21 = .ok (.invokestatic 53, 3) := by decide +kernel
theorem dX8_test_24 : decode cX8_test 24 = .ok (.ifCond .eq 13, 3) := by decide +kernel
theorem dX8_test_27 : decode cX8_test 27 = .ok (.new 57, 3) := by decide +kernel
theorem dX8_test_30 : decode cX8_test 30 = .ok (.dup, 1) := by decide +kernel
theorem dX8_test_31 : decode cX8_test 31 = .ok (.ldc 200, 2) := by decide +kernel
theorem dX8_test_33 : decode cX8_test 33 = .ok (.invokespecial 61, 3) := by decide +kernel
theorem dX8_test_36 : decode cX8_test 36 = .ok (.athrow, 1) := by decide +kernel
theorem dX8_test_37 : decode cX8_test 37 = .ok (.aload 4, 2) := by decide +kernel
theorem dX8_test_39 : decode cX8_test 39 = .ok (.getfield 194, 3) := by decide +kernel
theorem dX8_test_42 : decode cX8_test 42 = .ok (.ifCond .gt 11, 3) := by decide +kernel
theorem dX8_test_45 : decode cX8_test 45 = .ok (.aload 4, 2) := by decide +kernel
theorem dX8_test_47 : decode cX8_test 47 = .ok (.getfield 202, 3) := by decide +kernel
theorem dX8_test_50 : decode cX8_test 50 = .ok (.ifCond .eq 13, 3) := by decide +kernel
theorem dX8_test_53 : decode cX8_test 53 = .ok (.new 68, 3) := by decide +kernel
theorem dX8_test_56 : decode cX8_test 56 = .ok (.dup, 1) := by decide +kernel
theorem dX8_test_57 : decode cX8_test 57 = .ok (.ldc 206, 2) := by decide +kernel
theorem dX8_test_59 : decode cX8_test 59 = .ok (.invokespecial 72, 3) := by decide +kernel
theorem dX8_test_62 : decode cX8_test 62 = .ok (.athrow, 1) := by decide +kernel
theorem dX8_test_63 : decode cX8_test 63 = .ok (.aload 4, 2) := by decide +kernel
theorem dX8_test_65 : decode cX8_test 65 = .ok (.iload_n 2, 1) := by decide +kernel
theorem dX8_test_66 : decode cX8_test 66 = .ok (.iload_n 3, 1) := by decide +kernel
theorem dX8_test_67 : decode cX8_test 67 = .ok (.imul, 1) := by decide +kernel
theorem dX8_test_68 : decode cX8_test 68 = .ok (.invokevirtual 208, 3) := by decide +kernel
theorem dX8_test_71 : decode cX8_test 71 = .ok (.aload 4, 2) := by decide +kernel
theorem dX8_test_73 : decode cX8_test 73 = .ok (.getfield 202, 3) := by decide +kernel
theorem dX8_test_76 : decode cX8_test 76 = .ok (.ifCond .eq 17, 3) := by decide +kernel
theorem dX8_test_79 : decode cX8_test 79 = .ok (.aload 4, 2) := by decide +kernel
theorem dX8_test_81 : decode cX8_test 81 = .ok (.getfield 211, 3) := by decide +kernel
theorem dX8_test_84 : decode cX8_test 84 = .ok (.dup, 1) := by decide +kernel
theorem dX8_test_85 : decode cX8_test 85 = .ok (.getfield 214, 3) := by decide +kernel
theorem dX8_test_88 : decode cX8_test 88 = .ok (.iconst 1, 1) := by decide +kernel
theorem dX8_test_89 : decode cX8_test 89 = .ok (.iadd, 1) := by decide +kernel
theorem dX8_test_90 : decode cX8_test 90 = .ok (.putfield 214, 3) := by decide +kernel
theorem dX8_test_93 : decode cX8_test 93 = .ok (.aload 4, 2) := by decide +kernel
theorem dX8_test_95 : decode cX8_test 95 = .ok (.getfield 202, 3) := by decide +kernel
theorem dX8_test_98 : decode cX8_test 98 = .ok (.ireturn, 1) := by decide +kernel
theorem dX8_wear_0 : decode cX8_wear 0 = .ok (.aload_n 0, 1) := by decide +kernel
theorem dX8_wear_1 : decode cX8_wear 1 = .ok (.iload_n 1, 1) := by decide +kernel
theorem dX8_wear_2 : decode cX8_wear 2 = .ok (.invokevirtual 190, 3) := by decide +kernel
theorem dX8_wear_5 : decode cX8_wear 5 = .ok (.getfield 217, 3) := by decide +kernel
theorem dX8_wear_8 : decode cX8_wear 8 = .ok (.astore_n 3, 1) := by decide +kernel
theorem dX8_wear_9 : decode cX8_wear 9 = .ok (.iload_n 2, 1) := by decide +kernel
theorem dX8_wear_10 : decode cX8_wear 10 = .ok (.ifCond .lt 11, 3) := by decide +kernel
theorem dX8_wear_13 : decode cX8_wear 13 = .ok (.iload_n 2, 1) := by decide +kernel
theorem dX8_wear_14 : decode cX8_wear 14 = .ok (.aload_n 3, 1) := by decide +kernel
theorem dX8_wear_15 : decode cX8_wear 15 = .ok (.invokevirtual 64, 3) := by decide +kernel
theorem dX8_wear_18 : decode cX8_wear 18 = .ok (.if_icmp .lt 13, 3) := by decide +kernel
theorem dX8_wear_21 : decode cX8_wear 21 = .ok (.new 220, 3) := by decide +kernel
theorem dX8_wear_24 : decode cX8_wear 24 = .ok (.dup, 1) := by decide +kernel
theorem dX8_wear_25 : decode cX8_wear 25 = .ok (.ldc 222, 2) := by decide +kernel
theorem dX8_wear_27 : decode cX8_wear 27 = .ok (.invokespecial 224, 3) := by decide +kernel
theorem dX8_wear_30 : decode cX8_wear 30 = .ok (.athrow, 1) := by decide +kernel
theorem dX8_wear_31 : decode cX8_wear 31 = .ok (.aload_n 3, 1) := by decide +kernel
theorem dX8_wear_32 : decode cX8_wear 32 = .ok (.iload_n 2, 1) := by decide +kernel
theorem dX8_wear_33 : decode cX8_wear 33 = .ok (.invokevirtual 148, 3) := by decide +kernel
theorem dX8_wear_36 : decode cX8_wear 36 = .ok (.checkcast 225, 3) := by decide +kernel
theorem dX8_wear_39 : decode cX8_wear 39 = .ok (.getfield 227, 3) := by decide +kernel
theorem dX8_wear_42 : decode cX8_wear 42 = .ok (.ireturn, 1) := by decide +kernel
theorem dX8_claims_0 : decode cX8_claims 0 = .ok (.aload_n 0, 1) := by decide +kernel
theorem dX8_claims_1 : decode cX8_claims 1 = .ok (.iload_n 1, 1) := by decide +kernel
theorem dX8_claims_2 : decode cX8_claims 2 = .ok (.invokevirtual 117, 3) := by decide +kernel
theorem dX8_claims_5 : decode cX8_claims 5 = .ok (.getfield 214, 3) := by decide +kernel
theorem dX8_claims_8 : decode cX8_claims 8 = .ok (.ireturn, 1) := by decide +kernel
theorem dX8_isOutside_0 : decode cX8_isOutside 0 = .ok (.iload_n 0, 1) := by decide +kernel
theorem dX8_isOutside_1 : decode cX8_isOutside 1 = .ok (.iload_n 1, 1) := by decide +kernel
theorem dX8_isOutside_2 : decode cX8_isOutside 2 = .ok (.if_icmp .lt 8, 3) := by decide +kernel
theorem dX8_isOutside_5 : decode cX8_isOutside 5 = .ok (.iload_n 0, 1) := by decide +kernel
theorem dX8_isOutside_6 : decode cX8_isOutside 6 = .ok (.iload_n 2, 1) := by decide +kernel
theorem dX8_isOutside_7 : decode cX8_isOutside 7 = .ok (.if_icmp .le 7, 3) := by decide +kernel
theorem dX8_isOutside_10 : decode cX8_isOutside 10 = .ok (.iconst 1, 1) := by decide +kernel
theorem dX8_isOutside_11 : decode cX8_isOutside 11 = .ok (.goto 4, 3) := by decide +kernel
theorem dX8_isOutside_14 : decode cX8_isOutside 14 = .ok (.iconst 0, 1) := by decide +kernel
theorem dX8_isOutside_15 : decode cX8_isOutside 15 = .ok (.ireturn, 1) := by decide +kernel
theorem dX8_isNoModule_0 : decode cX8_isNoModule 0 = .ok (.iload_n 0, 1) := by decide +kernel
theorem dX8_isNoModule_1 : decode cX8_isNoModule 1 = .ok (.iconst 1, 1) := by decide +kernel
theorem dX8_isNoModule_2 : decode cX8_isNoModule 2 = .ok (.iconst 4, 1) := by decide +kernel
theorem dX8_isNoModule_3 : decode cX8_isNoModule 3 = .ok (.invokestatic 53, 3) := by decide +kernel
theorem dX8_isNoModule_6 : decode cX8_isNoModule 6 = .ok (.ireturn, 1) := by decide +kernel
theorem dX8_isNoToothCount_0 : decode cX8_isNoToothCount 0 = .ok (.iload_n 0, 1) := by decide +kernel
theorem dX8_isNoToothCount_1 : decode cX8_isNoToothCount 1 = .ok (.bipush 8, 2) := by decide +kernel
theorem dX8_isNoToothCount_3 : decode cX8_isNoToothCount 3 = .ok (.bipush 60, 2) := by decide +kernel
theorem dX8_isNoToothCount_5 : decode cX8_isNoToothCount 5 = .ok (.invokestatic 53, 3) := by decide +kernel
theorem dX8_isNoToothCount_8 : decode cX8_isNoToothCount 8 = .ok (.ireturn, 1) := by decide +kernel
theorem dX8_checkTurns_0 : decode cX8_checkTurns 0 = .ok (.iload_n 0, 1) := by decide +kernel
theorem dX8_checkTurns_1 : decode cX8_checkTurns 1 = .ok (.iconst 0, 1) := by decide +kernel
theorem dX8_checkTurns_2 : decode cX8_checkTurns 2 = .ok (.ldc 243, 2) := by decide +kernel
theorem dX8_checkTurns_4 : decode cX8_checkTurns 4 = .ok (.invokestatic 53, 3) := by decide +kernel
theorem dX8_checkTurns_7 : decode cX8_checkTurns 7 = .ok (.ifCond .eq 13, 3) := by decide +kernel
theorem dX8_checkTurns_10 : decode cX8_checkTurns 10 = .ok (.new 57, 3) := by decide +kernel
theorem dX8_checkTurns_13 : decode cX8_checkTurns 13 = .ok (.dup, 1) := by decide +kernel
theorem dX8_checkTurns_14 : decode cX8_checkTurns 14 = .ok (.ldc 244, 2) := by decide +kernel
theorem dX8_checkTurns_16 : decode cX8_checkTurns 16 = .ok (.invokespecial 61, 3) := by decide +kernel
theorem dX8_checkTurns_19 : decode cX8_checkTurns 19 = .ok (.athrow, 1) := by decide +kernel
theorem dX8_checkTurns_20 : decode cX8_checkTurns 20 = .ok (.return_, 1) := by decide +kernel
theorem dX8_trainAt_0 : decode cX8_trainAt 0 = .ok (.iload_n 1, 1) := by decide +kernel
theorem dX8_trainAt_1 : decode cX8_trainAt 1 = .ok (.ifCond .lt 14, 3) := by decide +kernel
theorem dX8_trainAt_4 : decode cX8_trainAt 4 = .ok (.iload_n 1, 1) := by decide +kernel
theorem dX8_trainAt_5 : decode cX8_trainAt 5 = .ok (.aload_n 0, 1) := by decide +kernel
theorem dX8_trainAt_6 : decode cX8_trainAt 6 = .ok (.getfield 16, 3) := by decide +kernel
theorem dX8_trainAt_9 : decode cX8_trainAt 9 = .ok (.invokevirtual 64, 3) := by decide +kernel
theorem dX8_trainAt_12 : decode cX8_trainAt 12 = .ok (.if_icmp .lt 13, 3) := by decide +kernel
theorem dX8_trainAt_15 : decode cX8_trainAt 15 = .ok (.new 220, 3) := by decide +kernel
theorem dX8_trainAt_18 : decode cX8_trainAt 18 = .ok (.dup, 1) := by decide +kernel
theorem dX8_trainAt_19 : decode cX8_trainAt 19 = .ok (.ldc 246, 2) := by decide +kernel
theorem dX8_trainAt_21 : decode cX8_trainAt 21 = .ok (.invokespecial 224, 3) := by decide +kernel
theorem dX8_trainAt_24 : decode cX8_trainAt 24 = .ok (.athrow, 1) := by decide +kernel
theorem dX8_trainAt_25 : decode cX8_trainAt 25 = .ok (.aload_n 0, 1) := by decide +kernel
theorem dX8_trainAt_26 : decode cX8_trainAt 26 = .ok (.getfield 16, 3) := by decide +kernel
theorem dX8_trainAt_29 : decode cX8_trainAt 29 = .ok (.iload_n 1, 1) := by decide +kernel
theorem dX8_trainAt_30 : decode cX8_trainAt 30 = .ok (.invokevirtual 148, 3) := by decide +kernel
theorem dX8_trainAt_33 : decode cX8_trainAt 33 = .ok (.checkcast 28, 3) := by decide +kernel
theorem dX8_trainAt_36 : decode cX8_trainAt 36 = .ok (.areturn, 1) := by decide +kernel
theorem dX8_orderAt_0 : decode cX8_orderAt 0 = .ok (.iload_n 1, 1) := by decide +kernel
theorem dX8_orderAt_1 : decode cX8_orderAt 1 = .ok (.ifCond .lt 14, 3) := by decide +kernel
theorem dX8_orderAt_4 : decode cX8_orderAt 4 = .ok (.iload_n 1, 1) := by decide +kernel
theorem dX8_orderAt_5 : decode cX8_orderAt 5 = .ok (.aload_n 0, 1) := by decide +kernel
theorem dX8_orderAt_6 : decode cX8_orderAt 6 = .ok (.getfield 19, 3) := by decide +kernel
theorem dX8_orderAt_9 : decode cX8_orderAt 9 = .ok (.invokevirtual 64, 3) := by decide +kernel
theorem dX8_orderAt_12 : decode cX8_orderAt 12 = .ok (.if_icmp .lt 13, 3) := by decide +kernel
theorem dX8_orderAt_15 : decode cX8_orderAt 15 = .ok (.new 220, 3) := by decide +kernel
theorem dX8_orderAt_18 : decode cX8_orderAt 18 = .ok (.dup, 1) := by decide +kernel
theorem dX8_orderAt_19 : decode cX8_orderAt 19 = .ok (.ldc 248, 2) := by decide +kernel
theorem dX8_orderAt_21 : decode cX8_orderAt 21 = .ok (.invokespecial 224, 3) := by decide +kernel
theorem dX8_orderAt_24 : decode cX8_orderAt 24 = .ok (.athrow, 1) := by decide +kernel
theorem dX8_orderAt_25 : decode cX8_orderAt 25 = .ok (.aload_n 0, 1) := by decide +kernel
theorem dX8_orderAt_26 : decode cX8_orderAt 26 = .ok (.getfield 19, 3) := by decide +kernel
theorem dX8_orderAt_29 : decode cX8_orderAt 29 = .ok (.iload_n 1, 1) := by decide +kernel
theorem dX8_orderAt_30 : decode cX8_orderAt 30 = .ok (.invokevirtual 148, 3) := by decide +kernel
theorem dX8_orderAt_33 : decode cX8_orderAt 33 = .ok (.checkcast 160, 3) := by decide +kernel
theorem dX8_orderAt_36 : decode cX8_orderAt 36 = .ok (.areturn, 1) := by decide +kernel
theorem dX8_machineAt_0 : decode cX8_machineAt 0 = .ok (.iload_n 1, 1) := by decide +kernel
theorem dX8_machineAt_1 : decode cX8_machineAt 1 = .ok (.ifCond .lt 14, 3) := by decide +kernel
theorem dX8_machineAt_4 : decode cX8_machineAt 4 = .ok (.iload_n 1, 1) := by decide +kernel
theorem dX8_machineAt_5 : decode cX8_machineAt 5 = .ok (.aload_n 0, 1) := by decide +kernel
theorem dX8_machineAt_6 : decode cX8_machineAt 6 = .ok (.getfield 22, 3) := by decide +kernel
theorem dX8_machineAt_9 : decode cX8_machineAt 9 = .ok (.invokevirtual 64, 3) := by decide +kernel
theorem dX8_machineAt_12 : decode cX8_machineAt 12 = .ok (.if_icmp .lt 13, 3) := by decide +kernel
theorem dX8_machineAt_15 : decode cX8_machineAt 15 = .ok (.new 220, 3) := by decide +kernel
theorem dX8_machineAt_18 : decode cX8_machineAt 18 = .ok (.dup, 1) := by decide +kernel
theorem dX8_machineAt_19 : decode cX8_machineAt 19 = .ok (.ldc 250, 2) := by decide +kernel
theorem dX8_machineAt_21 : decode cX8_machineAt 21 = .ok (.invokespecial 224, 3) := by decide +kernel
theorem dX8_machineAt_24 : decode cX8_machineAt 24 = .ok (.athrow, 1) := by decide +kernel
theorem dX8_machineAt_25 : decode cX8_machineAt 25 = .ok (.aload_n 0, 1) := by decide +kernel
theorem dX8_machineAt_26 : decode cX8_machineAt 26 = .ok (.getfield 22, 3) := by decide +kernel
theorem dX8_machineAt_29 : decode cX8_machineAt 29 = .ok (.iload_n 1, 1) := by decide +kernel
theorem dX8_machineAt_30 : decode cX8_machineAt 30 = .ok (.invokevirtual 148, 3) := by decide +kernel
theorem dX8_machineAt_33 : decode cX8_machineAt 33 = .ok (.checkcast 39, 3) := by decide +kernel
theorem dX8_machineAt_36 : decode cX8_machineAt 36 = .ok (.areturn, 1) := by decide +kernel
theorem dX8_lowestCutter_0 : decode cX8_lowestCutter 0 = .ok (.iconst 0, 1) := by decide +kernel
theorem dX8_lowestCutter_1 : decode cX8_lowestCutter 1 = .ok (.istore_n 3, 1) := by decide +kernel
theorem dX8_lowestCutter_2 : decode cX8_lowestCutter 2 = .ok (.iload_n 3, 1) := by decide +kernel
theorem dX8_lowestCutter_3 : decode cX8_lowestCutter 3 = .ok (.aload_n 0, 1) := by decide +kernel
theorem dX8_lowestCutter_4 : decode cX8_lowestCutter 4 = .ok (.getfield 10, 3) := by decide +kernel
theorem dX8_lowestCutter_7 : decode cX8_lowestCutter 7 = .ok (.invokevirtual 64, 3) := by decide +kernel
theorem dX8_lowestCutter_10 : decode cX8_lowestCutter 10 = .ok (.if_icmp .ge 30, 3) := by decide +kernel
theorem dX8_lowestCutter_13 : decode cX8_lowestCutter 13 = .ok (.aload_n 0, 1) := by decide +kernel
theorem dX8_lowestCutter_14 : decode cX8_lowestCutter 14 = .ok (.getfield 10, 3) := by decide +kernel
theorem dX8_lowestCutter_17 : decode cX8_lowestCutter 17 = .ok (.iload_n 3, 1) := by decide +kernel
theorem dX8_lowestCutter_18 : decode cX8_lowestCutter 18 = .ok (.invokevirtual 148, 3) := by decide +kernel
theorem dX8_lowestCutter_21 : decode cX8_lowestCutter 21 = .ok (.checkcast 73, 3) := by decide +kernel
theorem dX8_lowestCutter_24 : decode cX8_lowestCutter 24 = .ok (.iload_n 1, 1) := by decide +kernel
theorem dX8_lowestCutter_25 : decode cX8_lowestCutter 25 = .ok (.iload_n 2, 1) := by decide +kernel
theorem dX8_lowestCutter_26 : decode cX8_lowestCutter 26 = .ok (.invokevirtual 252, 3) := by decide +kernel
theorem dX8_lowestCutter_29 : decode cX8_lowestCutter 29 = .ok (.ifCond .eq 5, 3) := by decide +kernel
theorem dX8_lowestCutter_32 : decode cX8_lowestCutter 32 = .ok (.iload_n 3, 1) := by decide +kernel
theorem dX8_lowestCutter_33 : decode cX8_lowestCutter 33 = .ok (.ireturn, 1) := by decide +kernel
theorem dX8_lowestCutter_34 : decode cX8_lowestCutter 34 = .ok (.iinc 3 1, 3) := by decide +kernel
theorem dX8_lowestCutter_37 : decode cX8_lowestCutter 37 = .ok (.goto (-35), 3) := by decide +kernel
theorem dX8_lowestCutter_40 : decode cX8_lowestCutter 40 = .ok (.iconst (-1), 1) := by decide +kernel
theorem dX8_lowestCutter_41 : decode cX8_lowestCutter 41 = .ok (.ireturn, 1) := by decide +kernel
theorem dX8_hasAllCutters_0 : decode cX8_hasAllCutters 0 = .ok (.iconst 0, 1) := by decide +kernel
theorem dX8_hasAllCutters_1 : decode cX8_hasAllCutters 1 = .ok (.istore_n 2, 1) := by decide +kernel
theorem dX8_hasAllCutters_2 : decode cX8_hasAllCutters 2 = .ok (.iload_n 2, 1) := by decide +kernel
theorem dX8_hasAllCutters_3 : decode cX8_hasAllCutters 3 = .ok (.aload_n 1, 1) := by decide +kernel
theorem dX8_hasAllCutters_4 : decode cX8_hasAllCutters 4 = .ok (.getfield 86, 3) := by decide +kernel
theorem dX8_hasAllCutters_7 : decode cX8_hasAllCutters 7 = .ok (.invokevirtual 64, 3) := by decide +kernel
theorem dX8_hasAllCutters_10 : decode cX8_hasAllCutters 10 = .ok (.if_icmp .ge 55, 3) := by decide +kernel
theorem dX8_hasAllCutters_13 : decode cX8_hasAllCutters 13 = .ok (.aload_n 1, 1) := by decide +kernel
theorem dX8_hasAllCutters_14 : decode cX8_hasAllCutters 14 = .ok (.getfield 86, 3) := by decide +kernel
theorem dX8_hasAllCutters_17 : decode cX8_hasAllCutters 17 = .ok (.iload_n 2, 1) := by decide +kernel
theorem dX8_hasAllCutters_18 : decode cX8_hasAllCutters 18 = .ok (.invokevirtual 148, 3) := by decide +kernel
theorem dX8_hasAllCutters_21 : decode cX8_hasAllCutters 21 = .ok (.checkcast 91, 3) := by decide +kernel
theorem dX8_hasAllCutters_24 : decode cX8_hasAllCutters 24 = .ok (.astore_n 3, 1) := by decide +kernel
theorem dX8_hasAllCutters_25 : decode cX8_hasAllCutters 25 = .ok (.aload_n 0, 1) := by decide +kernel
theorem dX8_hasAllCutters_26 : decode cX8_hasAllCutters 26 = .ok (.aload_n 3, 1) := by decide +kernel
theorem dX8_hasAllCutters_27 : decode cX8_hasAllCutters 27 = .ok (.getfield 165, 3) := by decide +kernel
theorem dX8_hasAllCutters_30 : decode cX8_hasAllCutters 30 = .ok (.aload_n 3, 1) := by decide +kernel
theorem dX8_hasAllCutters_31 : decode cX8_hasAllCutters 31 = .ok (.getfield 152, 3) := by decide +kernel
theorem dX8_hasAllCutters_34 : decode cX8_hasAllCutters 34 = .ok (.invokevirtual 80, 3) := by decide +kernel
theorem dX8_hasAllCutters_37 : decode cX8_hasAllCutters 37 = .ok (.iconst (-1), 1) := by decide +kernel
theorem dX8_hasAllCutters_38 : decode cX8_hasAllCutters 38 = .ok (.if_icmp .eq 19, 3) := by decide +kernel
theorem dX8_hasAllCutters_41 : decode cX8_hasAllCutters 41 = .ok (.aload_n 0, 1) := by decide +kernel
theorem dX8_hasAllCutters_42 : decode cX8_hasAllCutters 42 = .ok (.aload_n 3, 1) := by decide +kernel
theorem dX8_hasAllCutters_43 : decode cX8_hasAllCutters 43 = .ok (.getfield 165, 3) := by decide +kernel
theorem dX8_hasAllCutters_46 : decode cX8_hasAllCutters 46 = .ok (.aload_n 3, 1) := by decide +kernel
theorem dX8_hasAllCutters_47 : decode cX8_hasAllCutters 47 = .ok (.getfield 155, 3) := by decide +kernel
theorem dX8_hasAllCutters_50 : decode cX8_hasAllCutters 50 = .ok (.invokevirtual 80, 3) := by decide +kernel
theorem dX8_hasAllCutters_53 : decode cX8_hasAllCutters 53 = .ok (.iconst (-1), 1) := by decide +kernel
theorem dX8_hasAllCutters_54 : decode cX8_hasAllCutters 54 = .ok (.if_icmp .ne 5, 3) := by decide +kernel
theorem dX8_hasAllCutters_57 : decode cX8_hasAllCutters 57 = .ok (.iconst 0, 1) := by decide +kernel
theorem dX8_hasAllCutters_58 : decode cX8_hasAllCutters 58 = .ok (.ireturn, 1) := by decide +kernel
theorem dX8_hasAllCutters_59 : decode cX8_hasAllCutters 59 = .ok (.iinc 2 1, 3) := by decide +kernel
theorem dX8_hasAllCutters_62 : decode cX8_hasAllCutters 62 = .ok (.goto (-60), 3) := by decide +kernel
theorem dX8_hasAllCutters_65 : decode cX8_hasAllCutters 65 = .ok (.iconst 1, 1) := by decide +kernel
theorem dX8_hasAllCutters_66 : decode cX8_hasAllCutters 66 = .ok (.ireturn, 1) := by decide +kernel
theorem dX8_queue_0 : decode cX8_queue 0 = .ok (.aload_n 0, 1) := by decide +kernel
theorem dX8_queue_1 : decode cX8_queue 1 = .ok (.getfield 25, 3) := by decide +kernel
theorem dX8_queue_4 : decode cX8_queue 4 = .ok (.new 256, 3) := by decide +kernel
theorem dX8_queue_7 : decode cX8_queue 7 = .ok (.dup, 1) := by decide +kernel
theorem dX8_queue_8 : decode cX8_queue 8 = .ok (.aload_n 1, 1) := by decide +kernel
theorem dX8_queue_9 : decode cX8_queue 9 = .ok (.iload_n 3, 1) := by decide +kernel
theorem dX8_queue_10 : decode cX8_queue 10 = .ok (.aload_n 0, 1) := by decide +kernel
theorem dX8_queue_11 : decode cX8_queue 11 = .ok (.iload_n 2, 1) := by decide +kernel
theorem dX8_queue_12 : decode cX8_queue 12 = .ok (.iload_n 3, 1) := by decide +kernel
theorem dX8_queue_13 : decode cX8_queue 13 = .ok (.invokevirtual 80, 3) := by decide +kernel
theorem dX8_queue_16 : decode cX8_queue 16 = .ok (.invokespecial 258, 3) := by decide +kernel
theorem dX8_queue_19 : decode cX8_queue 19 = .ok (.invokevirtual 42, 3) := by decide +kernel
theorem dX8_queue_22 : decode cX8_queue 22 = .ok (.pop, 1) := by decide +kernel
theorem dX8_queue_23 : decode cX8_queue 23 = .ok (.return_, 1) := by decide +kernel
theorem dX8_giveOutJobs_0 : decode cX8_giveOutJobs 0 = .ok (.iconst 0, 1) := by decide +kernel
theorem dX8_giveOutJobs_1 : decode cX8_giveOutJobs 1 = .ok (.istore_n 1, 1) := by decide +kernel
theorem dX8_giveOutJobs_2 : decode cX8_giveOutJobs 2 = .ok (.iload_n 1, 1) := by decide +kernel
theorem dX8_giveOutJobs_3 : decode cX8_giveOutJobs 3 = .ok (.aload_n 0, 1) := by decide +kernel
theorem dX8_giveOutJobs_4 : decode cX8_giveOutJobs 4 = .ok (.getfield 22, 3) := by decide +kernel
theorem dX8_giveOutJobs_7 : decode cX8_giveOutJobs 7 = .ok (.invokevirtual 64, 3) := by decide +kernel
theorem dX8_giveOutJobs_10 : decode cX8_giveOutJobs 10 = .ok (.if_icmp .ge 33, 3) := by decide +kernel
theorem dX8_giveOutJobs_13 : decode cX8_giveOutJobs 13 = .ok (.aload_n 0, 1) := by decide +kernel
theorem dX8_giveOutJobs_14 : decode cX8_giveOutJobs 14 = .ok (.getfield 22, 3) := by decide +kernel
theorem dX8_giveOutJobs_17 : decode cX8_giveOutJobs 17 = .ok (.iload_n 1, 1) := by decide +kernel
theorem dX8_giveOutJobs_18 : decode cX8_giveOutJobs 18 = .ok (.invokevirtual 148, 3) := by decide +kernel
theorem dX8_giveOutJobs_21 : decode cX8_giveOutJobs 21 = .ok (.checkcast 39, 3) := by decide +kernel
theorem dX8_giveOutJobs_24 : decode cX8_giveOutJobs 24 = .ok (.astore_n 2, 1) := by decide +kernel
theorem dX8_giveOutJobs_25 : decode cX8_giveOutJobs 25 = .ok (.aload_n 2, 1) := by decide +kernel
theorem dX8_giveOutJobs_26 : decode cX8_giveOutJobs 26 = .ok (.getfield 260, 3) := by decide +kernel
theorem dX8_giveOutJobs_29 : decode cX8_giveOutJobs 29 = .ok (.ifnonnull 8, 3) := by decide +kernel
theorem dX8_giveOutJobs_32 : decode cX8_giveOutJobs 32 = .ok (.aload_n 0, 1) := by decide +kernel
theorem dX8_giveOutJobs_33 : decode cX8_giveOutJobs 33 = .ok (.aload_n 2, 1) := by decide +kernel
theorem dX8_giveOutJobs_34 : decode cX8_giveOutJobs 34 = .ok (.invokevirtual 264, 3) := by decide +kernel
theorem dX8_giveOutJobs_37 : decode cX8_giveOutJobs 37 = .ok (.iinc 1 1, 3) := by decide +kernel
theorem dX8_giveOutJobs_40 : decode cX8_giveOutJobs 40 = .ok (.goto (-38), 3) := by decide +kernel
theorem dX8_giveOutJobs_43 : decode cX8_giveOutJobs 43 = .ok (.return_, 1) := by decide +kernel
theorem dX8_giveJob_0 : decode cX8_giveJob 0 = .ok (.aload_n 0, 1) := by decide +kernel
theorem dX8_giveJob_1 : decode cX8_giveJob 1 = .ok (.aload_n 1, 1) := by decide +kernel
theorem dX8_giveJob_2 : decode cX8_giveJob 2 = .ok (.invokevirtual 268, 3) := by decide +kernel
theorem dX8_giveJob_5 : decode cX8_giveJob 5 = .ok (.istore_n 2, 1) := by decide +kernel
theorem dX8_giveJob_6 : decode cX8_giveJob 6 = .ok (.iconst 0, 1) := by decide +kernel
theorem dX8_giveJob_7 : decode cX8_giveJob 7 = .ok (.istore_n 3, 1) := by decide +kernel
theorem dX8_giveJob_8 : decode cX8_giveJob 8 = .ok (.iload_n 2, 1) := by decide +kernel
theorem dX8_giveJob_9 : decode cX8_giveJob 9 = .ok (.iconst (-1), 1) := by decide +kernel
theorem dX8_giveJob_10 : decode cX8_giveJob 10 = .ok (.if_icmp .ne 11, 3) := by decide +kernel
theorem dX8_giveJob_13 : decode cX8_giveJob 13 = .ok (.aload_n 0, 1) := by decide +kernel
theorem dX8_giveJob_14 : decode cX8_giveJob 14 = .ok (.aload_n 1, 1) := by decide +kernel
theorem dX8_giveJob_15 : decode cX8_giveJob 15 = .ok (.invokevirtual 272, 3) := by decide +kernel
theorem dX8_giveJob_18 : decode cX8_giveJob 18 = .ok (.istore_n 2, 1) := by decide +kernel
theorem dX8_giveJob_19 : decode cX8_giveJob 19 = .ok (.iconst 3, 1) := by decide +kernel
theorem dX8_giveJob_20 : decode cX8_giveJob 20 = .ok (.istore_n 3, 1) := by decide +kernel
theorem dX8_giveJob_21 : decode cX8_giveJob 21 = .ok (.iload_n 2, 1) := by decide +kernel
theorem dX8_giveJob_22 : decode cX8_giveJob 22 = .ok (.ifCond .lt 14, 3) := by decide +kernel
theorem dX8_giveJob_25 : decode cX8_giveJob 25 = .ok (.iload_n 2, 1) := by decide +kernel
theorem dX8_giveJob_26 : decode cX8_giveJob 26 = .ok (.aload_n 0, 1) := by decide +kernel
theorem dX8_giveJob_27 : decode cX8_giveJob 27 = .ok (.getfield 25, 3) := by decide +kernel
theorem dX8_giveJob_30 : decode cX8_giveJob 30 = .ok (.invokevirtual 64, 3) := by decide +kernel
theorem dX8_giveJob_33 : decode cX8_giveJob 33 = .ok (.if_icmp .lt 4, 3) := by decide +kernel
theorem dX8_giveJob_36 : decode cX8_giveJob 36 = .ok (.return_, 1) := by decide +kernel
theorem dX8_giveJob_37 : decode cX8_giveJob 37 = .ok (.aload_n 1, 1) := by decide +kernel
theorem dX8_giveJob_38 : decode cX8_giveJob 38 = .ok (.aload_n 0, 1) := by decide +kernel
theorem dX8_giveJob_39 : decode cX8_giveJob 39 = .ok (.getfield 25, 3) := by decide +kernel
theorem dX8_giveJob_42 : decode cX8_giveJob 42 = .ok (.iload_n 2, 1) := by decide +kernel
theorem dX8_giveJob_43 : decode cX8_giveJob 43 = .ok (.invokevirtual 148, 3) := by decide +kernel
theorem dX8_giveJob_46 : decode cX8_giveJob 46 = .ok (.checkcast 256, 3) := by decide +kernel
theorem dX8_giveJob_49 : decode cX8_giveJob 49 = .ok (.iload_n 3, 1) := by decide +kernel
theorem dX8_giveJob_50 : decode cX8_giveJob 50 = .ok (.invokevirtual 275, 3) := by decide +kernel
theorem dX8_giveJob_53 : decode cX8_giveJob 53 = .ok (.aload_n 0, 1) := by decide +kernel
theorem dX8_giveJob_54 : decode cX8_giveJob 54 = .ok (.getfield 25, 3) := by decide +kernel
theorem dX8_giveJob_57 : decode cX8_giveJob 57 = .ok (.iload_n 2, 1) := by decide +kernel
theorem dX8_giveJob_58 : decode cX8_giveJob 58 = .ok (.invokevirtual 279, 3) := by decide +kernel
theorem dX8_giveJob_61 : decode cX8_giveJob 61 = .ok (.pop, 1) := by decide +kernel
theorem dX8_giveJob_62 : decode cX8_giveJob 62 = .ok (.return_, 1) := by decide +kernel
theorem dX8_firstWithCutterOf_0 : decode cX8_firstWithCutterOf 0 = .ok (.iconst 0, 1) := by decide +kernel
theorem dX8_firstWithCutterOf_1 : decode cX8_firstWithCutterOf 1 = .ok (.istore_n 2, 1) := by decide +kernel
theorem dX8_firstWithCutterOf_2 : decode cX8_firstWithCutterOf 2 = .ok (.iload_n 2, 1) := by decide +kernel
theorem dX8_firstWithCutterOf_3 : decode cX8_firstWithCutterOf 3 = .ok (.aload_n 0, 1) := by decide +kernel
theorem dX8_firstWithCutterOf_4 : decode cX8_firstWithCutterOf 4 = .ok (.getfield 25, 3) := by decide +kernel
theorem dX8_firstWithCutterOf_7 : decode cX8_firstWithCutterOf 7 = .ok (.invokevirtual 64, 3) := by decide +kernel
theorem dX8_firstWithCutterOf_10 : decode cX8_firstWithCutterOf 10 = .ok (.if_icmp .ge 32, 3) := by decide +kernel
theorem dX8_firstWithCutterOf_13 : decode cX8_firstWithCutterOf 13 = .ok (.aload_n 0, 1) := by decide +kernel
theorem dX8_firstWithCutterOf_14 : decode cX8_firstWithCutterOf 14 = .ok (.getfield 25, 3) := by decide +kernel
theorem dX8_firstWithCutterOf_17 : decode cX8_firstWithCutterOf 17 = .ok (.iload_n 2, 1) := by decide +kernel
theorem dX8_firstWithCutterOf_18 : decode cX8_firstWithCutterOf 18 = .ok (.invokevirtual 148, 3) := by decide +kernel
theorem dX8_firstWithCutterOf_21 : decode cX8_firstWithCutterOf 21 = .ok (.checkcast 256, 3) := by decide +kernel
theorem dX8_firstWithCutterOf_24 : decode cX8_firstWithCutterOf 24 = .ok (.getfield 282, 3) := by decide +kernel
theorem dX8_firstWithCutterOf_27 : decode cX8_firstWithCutterOf 27 = .ok (.aload_n 1, 1) := by decide +kernel
theorem dX8_firstWithCutterOf_28 : decode cX8_firstWithCutterOf 28 = .ok (.getfield 184, 3) := by decide +kernel
theorem dX8_firstWithCutterOf_31 : decode cX8_firstWithCutterOf 31 = .ok (.if_icmp .ne 5, 3) := by decide +kernel
theorem dX8_firstWithCutterOf_34 : decode cX8_firstWithCutterOf 34 = .ok (.iload_n 2, 1) := by decide +kernel
theorem dX8_firstWithCutterOf_35 : decode cX8_firstWithCutterOf 35 = .ok (.ireturn, 1) := by decide +kernel
theorem dX8_firstWithCutterOf_36 : decode cX8_firstWithCutterOf 36 = .ok (.iinc 2 1, 3) := by decide +kernel
theorem dX8_firstWithCutterOf_39 : decode cX8_firstWithCutterOf 39 = .ok (.goto (-37), 3) := by decide +kernel
theorem dX8_firstWithCutterOf_42 : decode cX8_firstWithCutterOf 42 = .ok (.iconst (-1), 1) := by decide +kernel
theorem dX8_firstWithCutterOf_43 : decode cX8_firstWithCutterOf 43 = .ok (.ireturn, 1) := by decide +kernel
theorem dX8_firstWithFreeCutter_0 : decode cX8_firstWithFreeCutter 0 = .ok (.iconst 0, 1) := by decide +kernel
theorem dX8_firstWithFreeCutter_1 : decode cX8_firstWithFreeCutter 1 = .ok (.istore_n 2, 1) := by decide +kernel
theorem dX8_firstWithFreeCutter_2 : decode cX8_firstWithFreeCutter 2 = .ok (.iload_n 2, 1) := by decide +kernel
theorem dX8_firstWithFreeCutter_3 : decode cX8_firstWithFreeCutter 3 = .ok (.aload_n 0, 1) := by decide +kernel
theorem dX8_firstWithFreeCutter_4 : decode cX8_firstWithFreeCutter 4 = .ok (.getfield 25, 3) := by decide +kernel
theorem dX8_firstWithFreeCutter_7 : decode cX8_firstWithFreeCutter 7 = .ok (.invokevirtual 64, 3) := by decide +kernel
theorem dX8_firstWithFreeCutter_10 : decode cX8_firstWithFreeCutter 10 = .ok (.if_icmp .ge 33, 3) := by decide +kernel
theorem dX8_firstWithFreeCutter_13 : decode cX8_firstWithFreeCutter 13 = .ok (.aload_n 0, 1) := by decide +kernel
theorem dX8_firstWithFreeCutter_14 : decode cX8_firstWithFreeCutter 14 = .ok (.aload_n 1, 1) := by decide +kernel
theorem dX8_firstWithFreeCutter_15 : decode cX8_firstWithFreeCutter 15 = .ok (.aload_n 0, 1) := by decide +kernel
theorem dX8_firstWithFreeCutter_16 : decode cX8_firstWithFreeCutter 16 = .ok (.getfield 25, 3) := by decide +kernel
theorem dX8_firstWithFreeCutter_19 : decode cX8_firstWithFreeCutter 19 = .ok (.iload_n 2, 1) := by decide +kernel
theorem dX8_firstWithFreeCutter_20 : decode cX8_firstWithFreeCutter 20 = .ok (.invokevirtual 148, 3) := by decide +kernel
theorem dX8_firstWithFreeCutter_23 : decode cX8_firstWithFreeCutter 23 = .ok (.checkcast 256, 3) := by decide +kernel
theorem dX8_firstWithFreeCutter_26 : decode cX8_firstWithFreeCutter 26 = .ok (.getfield 282, 3) := by decide +kernel
theorem dX8_firstWithFreeCutter_29 : decode cX8_firstWithFreeCutter 29 = .ok (.invokevirtual 283, 3) := by decide +kernel
theorem dX8_firstWithFreeCutter_32 : decode cX8_firstWithFreeCutter 32 = .ok (.ifCond .ne 5, 3) := by decide +kernel
theorem dX8_firstWithFreeCutter_35 : decode cX8_firstWithFreeCutter 35 = .ok (.iload_n 2, 1) := by decide +kernel
theorem dX8_firstWithFreeCutter_36 : decode cX8_firstWithFreeCutter 36 = .ok (.ireturn, 1) := by decide +kernel
theorem dX8_firstWithFreeCutter_37 : decode cX8_firstWithFreeCutter 37 = .ok (.iinc 2 1, 3) := by decide +kernel
theorem dX8_firstWithFreeCutter_40 : decode cX8_firstWithFreeCutter 40 = .ok (.goto (-38), 3) := by decide +kernel
theorem dX8_firstWithFreeCutter_43 : decode cX8_firstWithFreeCutter 43 = .ok (.iconst (-1), 1) := by decide +kernel
theorem dX8_firstWithFreeCutter_44 : decode cX8_firstWithFreeCutter 44 = .ok (.ireturn, 1) := by decide +kernel
theorem dX8_isOnAnother_0 : decode cX8_isOnAnother 0 = .ok (.iconst 0, 1) := by decide +kernel
theorem dX8_isOnAnother_1 : decode cX8_isOnAnother 1 = .ok (.istore_n 3, 1) := by decide +kernel
theorem dX8_isOnAnother_2 : decode cX8_isOnAnother 2 = .ok (.iload_n 3, 1) := by decide +kernel
theorem dX8_isOnAnother_3 : decode cX8_isOnAnother 3 = .ok (.aload_n 0, 1) := by decide +kernel
theorem dX8_isOnAnother_4 : decode cX8_isOnAnother 4 = .ok (.getfield 22, 3) := by decide +kernel
theorem dX8_isOnAnother_7 : decode cX8_isOnAnother 7 = .ok (.invokevirtual 64, 3) := by decide +kernel
theorem dX8_isOnAnother_10 : decode cX8_isOnAnother 10 = .ok (.if_icmp .ge 39, 3) := by decide +kernel
theorem dX8_isOnAnother_13 : decode cX8_isOnAnother 13 = .ok (.aload_n 0, 1) := by decide +kernel
theorem dX8_isOnAnother_14 : decode cX8_isOnAnother 14 = .ok (.getfield 22, 3) := by decide +kernel
theorem dX8_isOnAnother_17 : decode cX8_isOnAnother 17 = .ok (.iload_n 3, 1) := by decide +kernel
theorem dX8_isOnAnother_18 : decode cX8_isOnAnother 18 = .ok (.invokevirtual 148, 3) := by decide +kernel
theorem dX8_isOnAnother_21 : decode cX8_isOnAnother 21 = .ok (.checkcast 39, 3) := by decide +kernel
theorem dX8_isOnAnother_24 : decode cX8_isOnAnother 24 = .ok (.astore 4, 2) := by decide +kernel
theorem dX8_isOnAnother_26 : decode cX8_isOnAnother 26 = .ok (.aload 4, 2) := by decide +kernel
theorem dX8_isOnAnother_28 : decode cX8_isOnAnother 28 = .ok (.aload_n 1, 1) := by decide +kernel
theorem dX8_isOnAnother_29 : decode cX8_isOnAnother 29 = .ok (.if_acmp .eq 14, 3) := by decide +kernel
theorem dX8_isOnAnother_32 : decode cX8_isOnAnother 32 = .ok (.aload 4, 2) := by decide +kernel
theorem dX8_isOnAnother_34 : decode cX8_isOnAnother 34 = .ok (.getfield 184, 3) := by decide +kernel
theorem dX8_isOnAnother_37 : decode cX8_isOnAnother 37 = .ok (.iload_n 2, 1) := by decide +kernel
theorem dX8_isOnAnother_38 : decode cX8_isOnAnother 38 = .ok (.if_icmp .ne 5, 3) := by decide +kernel
theorem dX8_isOnAnother_41 : decode cX8_isOnAnother 41 = .ok (.iconst 1, 1) := by decide +kernel
theorem dX8_isOnAnother_42 : decode cX8_isOnAnother 42 = .ok (.ireturn, 1) := by decide +kernel
theorem dX8_isOnAnother_43 : decode cX8_isOnAnother 43 = .ok (.iinc 3 1, 3) := by decide +kernel
theorem dX8_isOnAnother_46 : decode cX8_isOnAnother 46 = .ok (.goto (-44), 3) := by decide +kernel
theorem dX8_isOnAnother_49 : decode cX8_isOnAnother 49 = .ok (.iconst 0, 1) := by decide +kernel
theorem dX8_isOnAnother_50 : decode cX8_isOnAnother 50 = .ok (.ireturn, 1) := by decide +kernel
theorem dX8_workOneTick_0 : decode cX8_workOneTick 0 = .ok (.iconst 0, 1) := by decide +kernel
theorem dX8_workOneTick_1 : decode cX8_workOneTick 1 = .ok (.istore_n 1, 1) := by decide +kernel
theorem dX8_workOneTick_2 : decode cX8_workOneTick 2 = .ok (.iconst 0, 1) := by decide +kernel
theorem dX8_workOneTick_3 : decode cX8_workOneTick 3 = .ok (.istore_n 2, 1) := by decide +kernel
theorem dX8_workOneTick_4 : decode cX8_workOneTick 4 = .ok (.iload_n 2, 1) := by decide +kernel
theorem dX8_workOneTick_5 : decode cX8_workOneTick 5 = .ok (.aload_n 0, 1) := by decide +kernel
theorem dX8_workOneTick_6 : decode cX8_workOneTick 6 = .ok (.getfield 22, 3) := by decide +kernel
theorem dX8_workOneTick_9 : decode cX8_workOneTick 9 = .ok (.invokevirtual 64, 3) := by decide +kernel
theorem dX8_workOneTick_12 : decode cX8_workOneTick 12 = .ok (.if_icmp .ge 39, 3) := by decide +kernel
theorem dX8_workOneTick_15 : decode cX8_workOneTick 15 = .ok (.aload_n 0, 1) := by decide +kernel
theorem dX8_workOneTick_16 : decode cX8_workOneTick 16 = .ok (.getfield 22, 3) := by decide +kernel
theorem dX8_workOneTick_19 : decode cX8_workOneTick 19 = .ok (.iload_n 2, 1) := by decide +kernel
theorem dX8_workOneTick_20 : decode cX8_workOneTick 20 = .ok (.invokevirtual 148, 3) := by decide +kernel
theorem dX8_workOneTick_23 : decode cX8_workOneTick 23 = .ok (.checkcast 39, 3) := by decide +kernel
theorem dX8_workOneTick_26 : decode cX8_workOneTick 26 = .ok (.invokevirtual 287, 3) := by decide +kernel
theorem dX8_workOneTick_29 : decode cX8_workOneTick 29 = .ok (.astore_n 3, 1) := by decide +kernel
theorem dX8_workOneTick_30 : decode cX8_workOneTick 30 = .ok (.aload_n 3, 1) := by decide +kernel
theorem dX8_workOneTick_31 : decode cX8_workOneTick 31 = .ok (.ifnull 14, 3) := by decide +kernel
theorem dX8_workOneTick_34 : decode cX8_workOneTick 34 = .ok (.aload_n 3, 1) := by decide +kernel
theorem dX8_workOneTick_35 : decode cX8_workOneTick 35 = .ok (.aload_n 0, 1) := by decide +kernel
theorem dX8_workOneTick_36 : decode cX8_workOneTick 36 = .ok (.getfield 35, 3) := by decide +kernel
theorem dX8_workOneTick_39 : decode cX8_workOneTick 39 = .ok (.invokevirtual 291, 3) := by decide +kernel
theorem dX8_workOneTick_42 : decode cX8_workOneTick 42 = .ok (.iinc 1 1, 3) := by decide +kernel
theorem dX8_workOneTick_45 : decode cX8_workOneTick 45 = .ok (.iinc 2 1, 3) := by decide +kernel
theorem dX8_workOneTick_48 : decode cX8_workOneTick 48 = .ok (.goto (-44), 3) := by decide +kernel
theorem dX8_workOneTick_51 : decode cX8_workOneTick 51 = .ok (.iload_n 1, 1) := by decide +kernel
theorem dX8_workOneTick_52 : decode cX8_workOneTick 52 = .ok (.ireturn, 1) := by decide +kernel
theorem dX8_commonDivisor_0 : decode cX8_commonDivisor 0 = .ok (.lload_n 0, 1) := by decide +kernel
theorem dX8_commonDivisor_1 : decode cX8_commonDivisor 1 = .ok (.lstore 4, 2) := by decide +kernel
theorem dX8_commonDivisor_3 : decode cX8_commonDivisor 3 = .ok (.lload_n 2, 1) := by decide +kernel
theorem dX8_commonDivisor_4 : decode cX8_commonDivisor 4 = .ok (.lstore 6, 2) := by decide +kernel
theorem dX8_commonDivisor_6 : decode cX8_commonDivisor 6 = .ok (.iconst 0, 1) := by decide +kernel
theorem dX8_commonDivisor_7 : decode cX8_commonDivisor 7 = .ok (.istore 8, 2) := by decide +kernel
theorem dX8_commonDivisor_9 : decode cX8_commonDivisor 9 = .ok (.iload 8, 2) := by decide +kernel
theorem dX8_commonDivisor_11 : decode cX8_commonDivisor 11 = .ok (.bipush 100, 2) := by decide +kernel
theorem dX8_commonDivisor_13 : decode cX8_commonDivisor 13 = .ok (.if_icmp .ge 31, 3) := by decide +kernel
theorem dX8_commonDivisor_16 : decode cX8_commonDivisor 16 = .ok (.lload 6, 2) := by decide +kernel
theorem dX8_commonDivisor_18 : decode cX8_commonDivisor 18 = .ok (.lconst 0, 1) := by decide +kernel
theorem dX8_commonDivisor_19 : decode cX8_commonDivisor 19 = .ok (.lcmp, 1) := by decide +kernel
theorem dX8_commonDivisor_20 : decode cX8_commonDivisor 20 = .ok (.ifCond .eq 24, 3) := by decide +kernel
theorem dX8_commonDivisor_23 : decode cX8_commonDivisor 23 = .ok (.lload 4, 2) := by decide +kernel
theorem dX8_commonDivisor_25 : decode cX8_commonDivisor 25 = .ok (.lload 6, 2) := by decide +kernel
theorem dX8_commonDivisor_27 : decode cX8_commonDivisor 27 = .ok (.lrem, 1) := by decide +kernel
theorem dX8_commonDivisor_28 : decode cX8_commonDivisor 28 = .ok (.lstore 9, 2) := by decide +kernel
theorem dX8_commonDivisor_30 : decode cX8_commonDivisor 30 = .ok (.lload 6, 2) := by decide +kernel
theorem dX8_commonDivisor_32 : decode cX8_commonDivisor 32 = .ok (.lstore 4, 2) := by decide +kernel
theorem dX8_commonDivisor_34 : decode cX8_commonDivisor 34 = .ok (.lload 9, 2) := by decide +kernel
theorem dX8_commonDivisor_36 : decode cX8_commonDivisor 36 = .ok (.lstore 6, 2) := by decide +kernel
theorem dX8_commonDivisor_38 : decode cX8_commonDivisor 38 = .ok (.iinc 8 1, 3) := by decide +kernel
theorem dX8_commonDivisor_41 : decode cX8_commonDivisor 41 = .ok (.goto (-32), 3) := by decide +kernel
theorem dX8_commonDivisor_44 : decode cX8_commonDivisor 44 = .ok (.lload 4, 2) := by decide +kernel
theorem dX8_commonDivisor_46 : decode cX8_commonDivisor 46 = .ok (.lreturn, 1) := by decide +kernel
theorem dJ9_max_7cf53_0 : decode cJ9_max_7cf53 0 = .ok (.iload_n 0, 1) := by decide +kernel
theorem dJ9_max_7cf53_1 : decode cJ9_max_7cf53 1 = .ok (.iload_n 1, 1) := by decide +kernel
theorem dJ9_max_7cf53_2 : decode cJ9_max_7cf53 2 = .ok (.if_icmp .lt 7, 3) := by decide +kernel
theorem dJ9_max_7cf53_5 : decode cJ9_max_7cf53 5 = .ok (.iload_n 0, 1) := by decide +kernel
theorem dJ9_max_7cf53_6 : decode cJ9_max_7cf53 6 = .ok (.goto 4, 3) := by decide +kernel
theorem dJ9_max_7cf53_9 : decode cJ9_max_7cf53 9 = .ok (.iload_n 1, 1) := by decide +kernel
theorem dJ9_max_7cf53_10 : decode cJ9_max_7cf53 10 = .ok (.ireturn, 1) := by decide +kernel
theorem dJ9_min_7cf53_0 : decode cJ9_min_7cf53 0 = .ok (.iload_n 0, 1) := by decide +kernel
theorem dJ9_min_7cf53_1 : decode cJ9_min_7cf53 1 = .ok (.iload_n 1, 1) := by decide +kernel
theorem dJ9_min_7cf53_2 : decode cJ9_min_7cf53 2 = .ok (.if_icmp .gt 7, 3) := by decide +kernel
theorem dJ9_min_7cf53_5 : decode cJ9_min_7cf53 5 = .ok (.iload_n 0, 1) := by decide +kernel
theorem dJ9_min_7cf53_6 : decode cJ9_min_7cf53 6 = .ok (.goto 4, 3) := by decide +kernel
theorem dJ9_min_7cf53_9 : decode cJ9_min_7cf53 9 = .ok (.iload_n 1, 1) := by decide +kernel
theorem dJ9_min_7cf53_10 : decode cJ9_min_7cf53 10 = .ok (.ireturn, 1) := by decide +kernel
theorem dJxa1e45_init_da8c8_0 : decode cJxa1e45_init_da8c8 0 = .ok (.aload_n 0, 1) := by decide +kernel
theorem dJxa1e45_init_da8c8_1 : decode cJxa1e45_init_da8c8 1 = .ok (.invokespecial 1, 3) := by decide +kernel
theorem dJxa1e45_init_da8c8_4 : decode cJxa1e45_init_da8c8 4 = .ok (.return_, 1) := by decide +kernel
theorem dJxc12de_init_da8c8_0 : decode cJxc12de_init_da8c8 0 = .ok (.aload_n 0, 1) := by decide +kernel
theorem dJxc12de_init_da8c8_1 : decode cJxc12de_init_da8c8 1 = .ok (.invokespecial 1, 3) := by decide +kernel
theorem dJxc12de_init_da8c8_4 : decode cJxc12de_init_da8c8 4 = .ok (.aload_n 0, 1) := by decide +kernel
theorem dJxc12de_init_da8c8_5 : decode cJxc12de_init_da8c8 5 = .ok (.iconst 0, 1) := by decide +kernel
theorem dJxc12de_init_da8c8_6 : decode cJxc12de_init_da8c8 6 = .ok (.putfield 7, 3) := by decide +kernel
theorem dJxc12de_init_da8c8_9 : decode cJxc12de_init_da8c8 9 = .ok (.return_, 1) := by decide +kernel
theorem dJx4a65c_init_da8c8_0 : decode cJx4a65c_init_da8c8 0 = .ok (.aload_n 0, 1) := by decide +kernel
theorem dJx4a65c_init_da8c8_1 : decode cJx4a65c_init_da8c8 1 = .ok (.invokespecial 1, 3) := by decide +kernel
theorem dJx4a65c_init_da8c8_4 : decode cJx4a65c_init_da8c8 4 = .ok (.aload_n 0, 1) := by decide +kernel
theorem dJx4a65c_init_da8c8_5 : decode cJx4a65c_init_da8c8 5 = .ok (.getstatic 39, 3) := by decide +kernel
theorem dJx4a65c_init_da8c8_8 : decode cJx4a65c_init_da8c8 8 = .ok (.putfield 9, 3) := by decide +kernel
theorem dJx4a65c_init_da8c8_11 : decode cJx4a65c_init_da8c8 11 = .ok (.return_, 1) := by decide +kernel
theorem dJx4a65c_grow_92f84_0 : decode cJx4a65c_grow_92f84 0 = .ok (.aload_n 0, 1) := by decide +kernel
theorem dJx4a65c_grow_92f84_1 : decode cJx4a65c_grow_92f84 1 = .ok (.getfield 9, 3) := by decide +kernel
theorem dJx4a65c_grow_92f84_4 : decode cJx4a65c_grow_92f84 4 = .ok (.arraylength, 1) := by decide +kernel
theorem dJx4a65c_grow_92f84_5 : decode cJx4a65c_grow_92f84 5 = .ok (.istore_n 2, 1) := by decide +kernel
theorem dJx4a65c_grow_92f84_6 : decode cJx4a65c_grow_92f84 6 = .ok (.iload_n 2, 1) := by decide +kernel
theorem dJx4a65c_grow_92f84_7 : decode cJx4a65c_grow_92f84 7 = .ok (.ifCond .gt 13, 3) := by decide +kernel
theorem dJx4a65c_grow_92f84_10 : decode cJx4a65c_grow_92f84 10 = .ok (.aload_n 0, 1) := by decide +kernel
theorem dJx4a65c_grow_92f84_11 : decode cJx4a65c_grow_92f84 11 = .ok (.getfield 9, 3) := by decide +kernel
theorem dJx4a65c_grow_92f84_14 : decode cJx4a65c_grow_92f84 14 = .ok (.getstatic 39, 3) := by decide +kernel
theorem dJx4a65c_grow_92f84_17 : decode cJx4a65c_grow_92f84 17 = .ok (.if_acmp .eq 28, 3) := by decide +kernel
theorem dJx4a65c_grow_92f84_20 : decode cJx4a65c_grow_92f84 20 = .ok (.iload_n 2, 1) := by decide +kernel
theorem dJx4a65c_grow_92f84_21 : decode cJx4a65c_grow_92f84 21 = .ok (.iload_n 1, 1) := by decide +kernel
theorem dJx4a65c_grow_92f84_22 : decode cJx4a65c_grow_92f84 22 = .ok (.iload_n 2, 1) := by decide +kernel
theorem dJx4a65c_grow_92f84_23 : decode cJx4a65c_grow_92f84 23 = .ok (.isub, 1) := by decide +kernel
theorem dJx4a65c_grow_92f84_24 : decode cJx4a65c_grow_92f84 24 = .ok (.iload_n 2, 1) := by decide +kernel
theorem dJx4a65c_grow_92f84_25 : decode cJx4a65c_grow_92f84 25 = .ok (.iconst 1, 1) := by decide +kernel
theorem dJx4a65c_grow_92f84_26 : decode cJx4a65c_grow_92f84 26 = .ok (.ishr, 1) := by decide +kernel
theorem dJx4a65c_grow_92f84_27 : decode cJx4a65c_grow_92f84 27 = .ok (.invokestatic 73, 3) := by decide +kernel
theorem dJx4a65c_grow_92f84_30 : decode cJx4a65c_grow_92f84 30 = .ok (.istore_n 3, 1) := by decide +kernel
theorem dJx4a65c_grow_92f84_31 : decode cJx4a65c_grow_92f84 31 = .ok (.aload_n 0, 1) := by decide +kernel
theorem dJx4a65c_grow_92f84_32 : decode cJx4a65c_grow_92f84 32 = .ok (.aload_n 0, 1) := by decide +kernel
theorem dJx4a65c_grow_92f84_33 : decode cJx4a65c_grow_92f84 33 = .ok (.getfield 9, 3) := by decide +kernel
theorem dJx4a65c_grow_92f84_36 : decode cJx4a65c_grow_92f84 36 = .ok (.iload_n 3, 1) := by decide +kernel
theorem dJx4a65c_grow_92f84_37 : decode cJx4a65c_grow_92f84 37 = .ok (.invokestatic 66, 3) := by decide +kernel
theorem dJx4a65c_grow_92f84_40 : decode cJx4a65c_grow_92f84 40 = .ok (.dup_x1, 1) := by decide +kernel
theorem dJx4a65c_grow_92f84_41 : decode cJx4a65c_grow_92f84 41 = .ok (.putfield 9, 3) := by decide +kernel
theorem dJx4a65c_grow_92f84_44 : decode cJx4a65c_grow_92f84 44 = .ok (.areturn, 1) := by decide +kernel
theorem dJx4a65c_grow_92f84_45 : decode cJx4a65c_grow_92f84 45 = .ok (.aload_n 0, 1) := by decide +kernel
theorem dJx4a65c_grow_92f84_46 : decode cJx4a65c_grow_92f84 46 = .ok (.bipush 10, 2) := by decide +kernel
theorem dJx4a65c_grow_92f84_48 : decode cJx4a65c_grow_92f84 48 = .ok (.iload_n 1, 1) := by decide +kernel
theorem dJx4a65c_grow_92f84_49 : decode cJx4a65c_grow_92f84 49 = .ok (.invokestatic 79, 3) := by decide +kernel
theorem dJx4a65c_grow_92f84_52 : decode cJx4a65c_grow_92f84 52 = .ok (.anewarray 7, 3) := by decide +kernel
theorem dJx4a65c_grow_92f84_55 : decode cJx4a65c_grow_92f84 55 = .ok (.dup_x1, 1) := by decide +kernel
theorem dJx4a65c_grow_92f84_56 : decode cJx4a65c_grow_92f84 56 = .ok (.putfield 9, 3) := by decide +kernel
theorem dJx4a65c_grow_92f84_59 : decode cJx4a65c_grow_92f84 59 = .ok (.areturn, 1) := by decide +kernel
theorem dJx4a65c_grow_d5877_0 : decode cJx4a65c_grow_d5877 0 = .ok (.aload_n 0, 1) := by decide +kernel
theorem dJx4a65c_grow_d5877_1 : decode cJx4a65c_grow_d5877 1 = .ok (.aload_n 0, 1) := by decide +kernel
theorem dJx4a65c_grow_d5877_2 : decode cJx4a65c_grow_d5877 2 = .ok (.getfield 48, 3) := by decide +kernel
theorem dJx4a65c_grow_d5877_5 : decode cJx4a65c_grow_d5877 5 = .ok (.iconst 1, 1) := by decide +kernel
theorem dJx4a65c_grow_d5877_6 : decode cJx4a65c_grow_d5877 6 = .ok (.iadd, 1) := by decide +kernel
theorem dJx4a65c_grow_d5877_7 : decode cJx4a65c_grow_d5877 7 = .ok (.invokevirtual 69, 3) := by decide +kernel
theorem dJx4a65c_grow_d5877_10 : decode cJx4a65c_grow_d5877 10 = .ok (.areturn, 1) := by decide +kernel
theorem dJx4a65c_size_8abf5_0 : decode cJx4a65c_size_8abf5 0 = .ok (.aload_n 0, 1) := by decide +kernel
theorem dJx4a65c_size_8abf5_1 : decode cJx4a65c_size_8abf5 1 = .ok (.getfield 48, 3) := by decide +kernel
theorem dJx4a65c_size_8abf5_4 : decode cJx4a65c_size_8abf5 4 = .ok (.ireturn, 1) := by decide +kernel
theorem dJx4a65c_isEmpty_aae02_0 : decode cJx4a65c_isEmpty_aae02 0 = .ok (.aload_n 0, 1) := by decide +kernel
theorem dJx4a65c_isEmpty_aae02_1 : decode cJx4a65c_isEmpty_aae02 1 = .ok (.getfield 48, 3) := by decide +kernel
theorem dJx4a65c_isEmpty_aae02_4 : decode cJx4a65c_isEmpty_aae02 4 = .ok (.ifCond .ne 7, 3) := by decide +kernel
theorem dJx4a65c_isEmpty_aae02_7 : decode cJx4a65c_isEmpty_aae02 7 = .ok (.iconst 1, 1) := by decide +kernel
theorem dJx4a65c_isEmpty_aae02_8 : decode cJx4a65c_isEmpty_aae02 8 = .ok (.goto 4, 3) := by decide +kernel
theorem dJx4a65c_isEmpty_aae02_11 : decode cJx4a65c_isEmpty_aae02 11 = .ok (.iconst 0, 1) := by decide +kernel
theorem dJx4a65c_isEmpty_aae02_12 : decode cJx4a65c_isEmpty_aae02 12 = .ok (.ireturn, 1) := by decide +kernel
theorem dJx4a65c_elementData_915e3_0 : decode cJx4a65c_elementData_915e3 0 = .ok (.aload_n 0, 1) := by decide +kernel
theorem dJx4a65c_elementData_915e3_1 : decode cJx4a65c_elementData_915e3 1 = .ok (.getfield 9, 3) := by decide +kernel
theorem dJx4a65c_elementData_915e3_4 : decode cJx4a65c_elementData_915e3 4 = .ok (.iload_n 1, 1) := by decide +kernel
theorem dJx4a65c_elementData_915e3_5 : decode cJx4a65c_elementData_915e3 5 = .ok (.aaload, 1) := by decide +kernel
theorem dJx4a65c_elementData_915e3_6 : decode cJx4a65c_elementData_915e3 6 = .ok (.areturn, 1) := by decide +kernel
theorem dJx4a65c_get_915e3_0 : decode cJx4a65c_get_915e3 0 = .ok (.iload_n 1, 1) := by decide +kernel
theorem dJx4a65c_get_915e3_1 : decode cJx4a65c_get_915e3 1 = .ok (.aload_n 0, 1) := by decide +kernel
theorem dJx4a65c_get_915e3_2 : decode cJx4a65c_get_915e3 2 = .ok (.getfield 48, 3) := by decide +kernel
theorem dJx4a65c_get_915e3_5 : decode cJx4a65c_get_915e3 5 = .ok (.invokestatic 118, 3) := by decide +kernel
theorem dJx4a65c_get_915e3_8 : decode cJx4a65c_get_915e3 8 = .ok (.pop, 1) := by decide +kernel
theorem dJx4a65c_get_915e3_9 : decode cJx4a65c_get_915e3 9 = .ok (.aload_n 0, 1) := by decide +kernel
theorem dJx4a65c_get_915e3_10 : decode cJx4a65c_get_915e3 10 = .ok (.iload_n 1, 1) := by decide +kernel
theorem dJx4a65c_get_915e3_11 : decode cJx4a65c_get_915e3 11 = .ok (.invokevirtual 123, 3) := by decide +kernel
theorem dJx4a65c_get_915e3_14 : decode cJx4a65c_get_915e3 14 = .ok (.areturn, 1) := by decide +kernel
theorem dJx4a65c_add_72be8_0 : decode cJx4a65c_add_72be8 0 = .ok (.iload_n 3, 1) := by decide +kernel
theorem dJx4a65c_add_72be8_1 : decode cJx4a65c_add_72be8 1 = .ok (.aload_n 2, 1) := by decide +kernel
theorem dJx4a65c_add_72be8_2 : decode cJx4a65c_add_72be8 2 = .ok (.arraylength, 1) := by decide +kernel
theorem dJx4a65c_add_72be8_3 : decode cJx4a65c_add_72be8 3 = .ok (.if_icmp .ne 8, 3) := by decide +kernel
theorem dJx4a65c_add_72be8_6 : decode cJx4a65c_add_72be8 6 = .ok (.aload_n 0, 1) := by decide +kernel
theorem dJx4a65c_add_72be8_7 : decode cJx4a65c_add_72be8 7 = .ok (.invokevirtual 129, 3) := by decide +kernel
theorem dJx4a65c_add_72be8_10 : decode cJx4a65c_add_72be8 10 = .ok (.astore_n 2, 1) := by decide +kernel
theorem dJx4a65c_add_72be8_11 : decode cJx4a65c_add_72be8 11 = .ok (.aload_n 2, 1) := by decide +kernel
theorem dJx4a65c_add_72be8_12 : decode cJx4a65c_add_72be8 12 = .ok (.iload_n 3, 1) := by decide +kernel
theorem dJx4a65c_add_72be8_13 : decode cJx4a65c_add_72be8 13 = .ok (.aload_n 1, 1) := by decide +kernel
theorem dJx4a65c_add_72be8_14 : decode cJx4a65c_add_72be8 14 = .ok (.aastore, 1) := by decide +kernel
theorem dJx4a65c_add_72be8_15 : decode cJx4a65c_add_72be8 15 = .ok (.aload_n 0, 1) := by decide +kernel
theorem dJx4a65c_add_72be8_16 : decode cJx4a65c_add_72be8 16 = .ok (.iload_n 3, 1) := by decide +kernel
theorem dJx4a65c_add_72be8_17 : decode cJx4a65c_add_72be8 17 = .ok (.iconst 1, 1) := by decide +kernel
theorem dJx4a65c_add_72be8_18 : decode cJx4a65c_add_72be8 18 = .ok (.iadd, 1) := by decide +kernel
theorem dJx4a65c_add_72be8_19 : decode cJx4a65c_add_72be8 19 = .ok (.putfield 48, 3) := by decide +kernel
theorem dJx4a65c_add_72be8_22 : decode cJx4a65c_add_72be8 22 = .ok (.return_, 1) := by decide +kernel
theorem dJx4a65c_add_9ea2d_0 : decode cJx4a65c_add_9ea2d 0 = .ok (.aload_n 0, 1) := by decide +kernel
theorem dJx4a65c_add_9ea2d_1 : decode cJx4a65c_add_9ea2d 1 = .ok (.dup, 1) := by decide +kernel
theorem dJx4a65c_add_9ea2d_2 : decode cJx4a65c_add_9ea2d 2 = .ok (.getfield 63, 3) := by decide +kernel
theorem dJx4a65c_add_9ea2d_5 : decode cJx4a65c_add_9ea2d 5 = .ok (.iconst 1, 1) := by decide +kernel
theorem dJx4a65c_add_9ea2d_6 : decode cJx4a65c_add_9ea2d 6 = .ok (.iadd, 1) := by decide +kernel
theorem dJx4a65c_add_9ea2d_7 : decode cJx4a65c_add_9ea2d 7 = .ok (.putfield 63, 3) := by decide +kernel
theorem dJx4a65c_add_9ea2d_10 : decode cJx4a65c_add_9ea2d 10 = .ok (.aload_n 0, 1) := by decide +kernel
theorem dJx4a65c_add_9ea2d_11 : decode cJx4a65c_add_9ea2d 11 = .ok (.aload_n 1, 1) := by decide +kernel
theorem dJx4a65c_add_9ea2d_12 : decode cJx4a65c_add_9ea2d 12 = .ok (.aload_n 0, 1) := by decide +kernel
theorem dJx4a65c_add_9ea2d_13 : decode cJx4a65c_add_9ea2d 13 = .ok (.getfield 9, 3) := by decide +kernel
theorem dJx4a65c_add_9ea2d_16 : decode cJx4a65c_add_9ea2d 16 = .ok (.aload_n 0, 1) := by decide +kernel
theorem dJx4a65c_add_9ea2d_17 : decode cJx4a65c_add_9ea2d 17 = .ok (.getfield 48, 3) := by decide +kernel
theorem dJx4a65c_add_9ea2d_20 : decode cJx4a65c_add_9ea2d 20 = .ok (.invokevirtual 131, 3) := by decide +kernel
theorem dJx4a65c_add_9ea2d_23 : decode cJx4a65c_add_9ea2d 23 = .ok (.iconst 1, 1) := by decide +kernel
theorem dJx4a65c_add_9ea2d_24 : decode cJx4a65c_add_9ea2d 24 = .ok (.ireturn, 1) := by decide +kernel
theorem dJx4a65c_remove_915e3_0 : decode cJx4a65c_remove_915e3 0 = .ok (.iload_n 1, 1) := by decide +kernel
theorem dJx4a65c_remove_915e3_1 : decode cJx4a65c_remove_915e3 1 = .ok (.aload_n 0, 1) := by decide +kernel
theorem dJx4a65c_remove_915e3_2 : decode cJx4a65c_remove_915e3 2 = .ok (.getfield 48, 3) := by decide +kernel
theorem dJx4a65c_remove_915e3_5 : decode cJx4a65c_remove_915e3 5 = .ok (.invokestatic 118, 3) := by decide +kernel
theorem dJx4a65c_remove_915e3_8 : decode cJx4a65c_remove_915e3 8 = .ok (.pop, 1) := by decide +kernel
theorem dJx4a65c_remove_915e3_9 : decode cJx4a65c_remove_915e3 9 = .ok (.aload_n 0, 1) := by decide +kernel
theorem dJx4a65c_remove_915e3_10 : decode cJx4a65c_remove_915e3 10 = .ok (.getfield 9, 3) := by decide +kernel
theorem dJx4a65c_remove_915e3_13 : decode cJx4a65c_remove_915e3 13 = .ok (.astore_n 2, 1) := by decide +kernel
theorem dJx4a65c_remove_915e3_14 : decode cJx4a65c_remove_915e3 14 = .ok (.aload_n 2, 1) := by decide +kernel
theorem dJx4a65c_remove_915e3_15 : decode cJx4a65c_remove_915e3 15 = .ok (.iload_n 1, 1) := by decide +kernel
theorem dJx4a65c_remove_915e3_16 : decode cJx4a65c_remove_915e3 16 = .ok (.aaload, 1) := by decide +kernel
theorem dJx4a65c_remove_915e3_17 : decode cJx4a65c_remove_915e3 17 = .ok (.astore_n 3, 1) := by decide +kernel
theorem dJx4a65c_remove_915e3_18 : decode cJx4a65c_remove_915e3 18 = .ok (.aload_n 0, 1) := by decide +kernel
theorem dJx4a65c_remove_915e3_19 : decode cJx4a65c_remove_915e3 19 = .ok (.aload_n 2, 1) := by decide +kernel
theorem dJx4a65c_remove_915e3_20 : decode cJx4a65c_remove_915e3 20 = .ok (.iload_n 1, 1) := by decide +kernel
theorem dJx4a65c_remove_915e3_21 : decode cJx4a65c_remove_915e3 21 = .ok (.invokevirtual 144, 3) := by decide +kernel
theorem dJx4a65c_remove_915e3_24 : decode cJx4a65c_remove_915e3 24 = .ok (.aload_n 3, 1) := by decide +kernel
theorem dJx4a65c_remove_915e3_25 : decode cJx4a65c_remove_915e3 25 = .ok (.areturn, 1) := by decide +kernel
theorem dJx4a65c_fastRemove_b59b0_0 : decode cJx4a65c_fastRemove_b59b0 0 = .ok (.aload_n 0, 1) := by decide +kernel
theorem dJx4a65c_fastRemove_b59b0_1 : decode cJx4a65c_fastRemove_b59b0 1 = .ok (.dup, 1) := by decide +kernel
theorem dJx4a65c_fastRemove_b59b0_2 : decode cJx4a65c_fastRemove_b59b0 2 = .ok (.getfield 63, 3) := by decide +kernel
theorem dJx4a65c_fastRemove_b59b0_5 : decode cJx4a65c_fastRemove_b59b0 5 = .ok (.iconst 1, 1) := by decide +kernel
theorem dJx4a65c_fastRemove_b59b0_6 : decode cJx4a65c_fastRemove_b59b0 6 = .ok (.iadd, 1) := by decide +kernel
theorem dJx4a65c_fastRemove_b59b0_7 : decode cJx4a65c_fastRemove_b59b0 7 = .ok (.putfield 63, 3) := by decide +kernel
theorem dJx4a65c_fastRemove_b59b0_10 : decode cJx4a65c_fastRemove_b59b0 10 = .ok (.aload_n 0, 1) := by decide +kernel
theorem dJx4a65c_fastRemove_b59b0_11 : decode cJx4a65c_fastRemove_b59b0 11 = .ok (.getfield 48, 3) := by decide +kernel
theorem dJx4a65c_fastRemove_b59b0_14 : decode cJx4a65c_fastRemove_b59b0 14 = .ok (.iconst 1, 1) := by decide +kernel
theorem dJx4a65c_fastRemove_b59b0_15 : decode cJx4a65c_fastRemove_b59b0 15 = .ok (.isub, 1) := by decide +kernel
theorem dJx4a65c_fastRemove_b59b0_16 : decode cJx4a65c_fastRemove_b59b0 16 = .ok (.dup, 1) := by decide +kernel
theorem dJx4a65c_fastRemove_b59b0_17 : decode cJx4a65c_fastRemove_b59b0 17 = .ok (.istore_n 3, 1) := by decide +kernel
theorem dJx4a65c_fastRemove_b59b0_18 : decode cJx4a65c_fastRemove_b59b0 18 = .ok (.iload_n 2, 1) := by decide +kernel
theorem dJx4a65c_fastRemove_b59b0_19 : decode cJx4a65c_fastRemove_b59b0 19 = .ok (.if_icmp .le 15, 3) := by decide +kernel
theorem dJx4a65c_fastRemove_b59b0_22 : decode cJx4a65c_fastRemove_b59b0 22 = .ok (.aload_n 1, 1) := by decide +kernel
theorem dJx4a65c_fastRemove_b59b0_23 : decode cJx4a65c_fastRemove_b59b0 23 = .ok (.iload_n 2, 1) := by decide +kernel
theorem dJx4a65c_fastRemove_b59b0_24 : decode cJx4a65c_fastRemove_b59b0 24 = .ok (.iconst 1, 1) := by decide +kernel
theorem dJx4a65c_fastRemove_b59b0_25 : decode cJx4a65c_fastRemove_b59b0 25 = .ok (.iadd, 1) := by decide +kernel
theorem dJx4a65c_fastRemove_b59b0_26 : decode cJx4a65c_fastRemove_b59b0 26 = .ok (.aload_n 1, 1) := by decide +kernel
theorem dJx4a65c_fastRemove_b59b0_27 : decode cJx4a65c_fastRemove_b59b0 27 = .ok (.iload_n 2, 1) := by decide +kernel
theorem dJx4a65c_fastRemove_b59b0_28 : decode cJx4a65c_fastRemove_b59b0 28 = .ok (.iload_n 3, 1) := by decide +kernel
theorem dJx4a65c_fastRemove_b59b0_29 : decode cJx4a65c_fastRemove_b59b0 29 = .ok (.iload_n 2, 1) := by decide +kernel
theorem dJx4a65c_fastRemove_b59b0_30 : decode cJx4a65c_fastRemove_b59b0 30 = .ok (.isub, 1) := by decide +kernel
theorem dJx4a65c_fastRemove_b59b0_31 : decode cJx4a65c_fastRemove_b59b0 31 = .ok (.invokestatic 112, 3) := by decide +kernel
theorem dJx4a65c_fastRemove_b59b0_34 : decode cJx4a65c_fastRemove_b59b0 34 = .ok (.aload_n 1, 1) := by decide +kernel
theorem dJx4a65c_fastRemove_b59b0_35 : decode cJx4a65c_fastRemove_b59b0 35 = .ok (.aload_n 0, 1) := by decide +kernel
theorem dJx4a65c_fastRemove_b59b0_36 : decode cJx4a65c_fastRemove_b59b0 36 = .ok (.iload_n 3, 1) := by decide +kernel
theorem dJx4a65c_fastRemove_b59b0_37 : decode cJx4a65c_fastRemove_b59b0 37 = .ok (.dup_x1, 1) := by decide +kernel
theorem dJx4a65c_fastRemove_b59b0_38 : decode cJx4a65c_fastRemove_b59b0 38 = .ok (.putfield 48, 3) := by decide +kernel
theorem dJx4a65c_fastRemove_b59b0_41 : decode cJx4a65c_fastRemove_b59b0 41 = .ok (.aconst_null, 1) := by decide +kernel
theorem dJx4a65c_fastRemove_b59b0_42 : decode cJx4a65c_fastRemove_b59b0 42 = .ok (.aastore, 1) := by decide +kernel
theorem dJx4a65c_fastRemove_b59b0_43 : decode cJx4a65c_fastRemove_b59b0 43 = .ok (.return_, 1) := by decide +kernel
theorem dJ7_copyOf_1904c_0 : decode cJ7_copyOf_1904c 0 = .ok (.aload_n 0, 1) := by decide +kernel
theorem dJ7_copyOf_1904c_1 : decode cJ7_copyOf_1904c 1 = .ok (.iload_n 1, 1) := by decide +kernel
theorem dJ7_copyOf_1904c_2 : decode cJ7_copyOf_1904c 2 = .ok (.aload_n 0, 1) := by decide +kernel
theorem dJ7_copyOf_1904c_3 : decode cJ7_copyOf_1904c 3 = .ok (.invokevirtual 86, 3) := by decide +kernel
theorem dJ7_copyOf_1904c_6 : decode cJ7_copyOf_1904c 6 = .ok (.invokestatic 300, 3) := by decide +kernel
theorem dJ7_copyOf_1904c_9 : decode cJ7_copyOf_1904c 9 = .ok (.areturn, 1) := by decide +kernel
theorem dJ7_copyOf_6403c_0 : decode cJ7_copyOf_6403c 0 = .ok (.aload_n 2, 1) := by decide +kernel
theorem dJ7_copyOf_6403c_1 : decode cJ7_copyOf_6403c 1 = .ok (.ldc 110, 2) := by decide +kernel
theorem dJ7_copyOf_6403c_3 : decode cJ7_copyOf_6403c 3 = .ok (.if_acmp .ne 10, 3) := by decide +kernel
theorem dJ7_copyOf_6403c_6 : decode cJ7_copyOf_6403c 6 = .ok (.iload_n 1, 1) := by decide +kernel
theorem dJ7_copyOf_6403c_7 : decode cJ7_copyOf_6403c 7 = .ok (.anewarray 2, 3) := by decide +kernel
theorem dJ7_copyOf_6403c_10 : decode cJ7_copyOf_6403c 10 = .ok (.goto 14, 3) := by decide +kernel
theorem dJ7_copyOf_6403c_13 : decode cJ7_copyOf_6403c 13 = .ok (.aload_n 2, 1) := by decide +kernel
theorem dJ7_copyOf_6403c_14 : decode cJ7_copyOf_6403c 14 = .ok (.invokevirtual 90, 3) := by decide +kernel
theorem dJ7_copyOf_6403c_17 : decode cJ7_copyOf_6403c 17 = .ok (.iload_n 1, 1) := by decide +kernel
theorem dJ7_copyOf_6403c_18 : decode cJ7_copyOf_6403c 18 = .ok (.invokestatic 95, 3) := by decide +kernel
theorem dJ7_copyOf_6403c_21 : decode cJ7_copyOf_6403c 21 = .ok (.checkcast 110, 3) := by decide +kernel
theorem dJ7_copyOf_6403c_24 : decode cJ7_copyOf_6403c 24 = .ok (.astore_n 3, 1) := by decide +kernel
theorem dJ7_copyOf_6403c_25 : decode cJ7_copyOf_6403c 25 = .ok (.aload_n 0, 1) := by decide +kernel
theorem dJ7_copyOf_6403c_26 : decode cJ7_copyOf_6403c 26 = .ok (.iconst 0, 1) := by decide +kernel
theorem dJ7_copyOf_6403c_27 : decode cJ7_copyOf_6403c 27 = .ok (.aload_n 3, 1) := by decide +kernel
theorem dJ7_copyOf_6403c_28 : decode cJ7_copyOf_6403c 28 = .ok (.iconst 0, 1) := by decide +kernel
theorem dJ7_copyOf_6403c_29 : decode cJ7_copyOf_6403c 29 = .ok (.aload_n 0, 1) := by decide +kernel
theorem dJ7_copyOf_6403c_30 : decode cJ7_copyOf_6403c 30 = .ok (.arraylength, 1) := by decide +kernel
theorem dJ7_copyOf_6403c_31 : decode cJ7_copyOf_6403c 31 = .ok (.iload_n 1, 1) := by decide +kernel
theorem dJ7_copyOf_6403c_32 : decode cJ7_copyOf_6403c 32 = .ok (.invokestatic 304, 3) := by decide +kernel
theorem dJ7_copyOf_6403c_35 : decode cJ7_copyOf_6403c 35 = .ok (.invokestatic 150, 3) := by decide +kernel
theorem dJ7_copyOf_6403c_38 : decode cJ7_copyOf_6403c 38 = .ok (.aload_n 3, 1) := by decide +kernel
theorem dJ7_copyOf_6403c_39 : decode cJ7_copyOf_6403c 39 = .ok (.areturn, 1) := by decide +kernel
theorem dJ15_checkIndex_7cf53_0 : decode cJ15_checkIndex_7cf53 0 = .ok (.iload_n 0, 1) := by decide +kernel
theorem dJ15_checkIndex_7cf53_1 : decode cJ15_checkIndex_7cf53 1 = .ok (.iload_n 1, 1) := by decide +kernel
theorem dJ15_checkIndex_7cf53_2 : decode cJ15_checkIndex_7cf53 2 = .ok (.aconst_null, 1) := by decide +kernel
theorem dJ15_checkIndex_7cf53_3 : decode cJ15_checkIndex_7cf53 3 = .ok (.invokestatic 105, 3) := by decide +kernel
theorem dJ15_checkIndex_7cf53_6 : decode cJ15_checkIndex_7cf53 6 = .ok (.ireturn, 1) := by decide +kernel
theorem dJ8_newLength_cabcc_0 : decode cJ8_newLength_cabcc 0 = .ok (.iload_n 0, 1) := by decide +kernel
theorem dJ8_newLength_cabcc_1 : decode cJ8_newLength_cabcc 1 = .ok (.iload_n 1, 1) := by decide +kernel
theorem dJ8_newLength_cabcc_2 : decode cJ8_newLength_cabcc 2 = .ok (.iload_n 2, 1) := by decide +kernel
theorem dJ8_newLength_cabcc_3 : decode cJ8_newLength_cabcc 3 = .ok (.invokestatic 194, 3) := by decide +kernel
theorem dJ8_newLength_cabcc_6 : decode cJ8_newLength_cabcc 6 = .ok (.iadd, 1) := by decide +kernel
theorem dJ8_newLength_cabcc_7 : decode cJ8_newLength_cabcc 7 = .ok (.istore_n 3, 1) := by decide +kernel
theorem dJ8_newLength_cabcc_8 : decode cJ8_newLength_cabcc 8 = .ok (.iconst 0, 1) := by decide +kernel
theorem dJ8_newLength_cabcc_9 : decode cJ8_newLength_cabcc 9 = .ok (.iload_n 3, 1) := by decide +kernel
theorem dJ8_newLength_cabcc_10 : decode cJ8_newLength_cabcc 10 = .ok (.if_icmp .ge 11, 3) := by decide +kernel
theorem dJ8_newLength_cabcc_13 : decode cJ8_newLength_cabcc 13 = .ok (.iload_n 3, 1) := by decide +kernel
theorem dJ8_newLength_cabcc_14 : decode cJ8_newLength_cabcc 14 = .ok (.ldc 200, 2) := by decide +kernel
theorem dJ8_newLength_cabcc_16 : decode cJ8_newLength_cabcc 16 = .ok (.if_icmp .gt 5, 3) := by decide +kernel
theorem dJ8_newLength_cabcc_19 : decode cJ8_newLength_cabcc 19 = .ok (.iload_n 3, 1) := by decide +kernel
theorem dJ8_newLength_cabcc_20 : decode cJ8_newLength_cabcc 20 = .ok (.ireturn, 1) := by decide +kernel
theorem dJ8_newLength_cabcc_21 : decode cJ8_newLength_cabcc 21 = .ok (.iload_n 0, 1) := by decide +kernel
theorem dJ8_newLength_cabcc_22 : decode cJ8_newLength_cabcc 22 = .ok (.iload_n 1, 1) := by decide +kernel
theorem dJ8_newLength_cabcc_23 : decode cJ8_newLength_cabcc 23 = .ok (.invokestatic 201, 3) := by decide +kernel
theorem dJ8_newLength_cabcc_26 : decode cJ8_newLength_cabcc 26 = .ok (.ireturn, 1) := by decide +kernel
theorem dJ8_hugeLength_7cf53_0 : decode cJ8_hugeLength_7cf53 0 = .ok (.iload_n 0, 1) := by decide +kernel
theorem dJ8_hugeLength_7cf53_1 : decode cJ8_hugeLength_7cf53 1 = .ok (.iload_n 1, 1) := by decide +kernel
theorem dJ8_hugeLength_7cf53_2 : decode cJ8_hugeLength_7cf53 2 = .ok (.iadd, 1) := by decide +kernel
theorem dJ8_hugeLength_7cf53_3 : decode cJ8_hugeLength_7cf53 3 = .ok (.istore_n 2, 1) := by decide +kernel
theorem dJ8_hugeLength_7cf53_4 : decode cJ8_hugeLength_7cf53 4 = .ok (.iload_n 2, 1) := by decide +kernel
theorem dJ8_hugeLength_7cf53_5 : decode cJ8_hugeLength_7cf53 5 = .ok (.ifCond .ge 44, 3) := by decide +kernel
theorem dJ8_hugeLength_7cf53_8 : decode cJ8_hugeLength_7cf53 8 = .ok (.new 204, 3) := by decide +kernel
theorem dJ8_hugeLength_7cf53_11 : decode cJ8_hugeLength_7cf53 11 = .ok (.dup, 1) := by decide +kernel
theorem dJ8_hugeLength_7cf53_12 : decode cJ8_hugeLength_7cf53 12 = .ok (.new 89, 3) := by decide +kernel
theorem dJ8_hugeLength_7cf53_15 : decode cJ8_hugeLength_7cf53 15 = .ok (.dup, 1) := by decide +kernel
theorem dJ8_hugeLength_7cf53_16 : decode cJ8_hugeLength_7cf53 16 = .ok (.invokespecial 91, 3) := by decide +kernel
theorem dJ8_hugeLength_7cf53_19 : decode cJ8_hugeLength_7cf53 19 = .ok (.ldc 206, 2) := by decide +kernel
theorem dJ8_hugeLength_7cf53_21 : decode cJ8_hugeLength_7cf53 21 = .ok (.invokevirtual 94, 3) := by decide +kernel
theorem dJ8_hugeLength_7cf53_24 : decode cJ8_hugeLength_7cf53 24 = .ok (.iload_n 0, 1) := by decide +kernel
theorem dJ8_hugeLength_7cf53_25 : decode cJ8_hugeLength_7cf53 25 = .ok (.invokevirtual 98, 3) := by decide +kernel
theorem dJ8_hugeLength_7cf53_28 : decode cJ8_hugeLength_7cf53 28 = .ok (.ldc 208, 2) := by decide +kernel
theorem dJ8_hugeLength_7cf53_30 : decode cJ8_hugeLength_7cf53 30 = .ok (.invokevirtual 94, 3) := by decide +kernel
theorem dJ8_hugeLength_7cf53_33 : decode cJ8_hugeLength_7cf53 33 = .ok (.iload_n 1, 1) := by decide +kernel
theorem dJ8_hugeLength_7cf53_34 : decode cJ8_hugeLength_7cf53 34 = .ok (.invokevirtual 98, 3) := by decide +kernel
theorem dJ8_hugeLength_7cf53_37 : decode cJ8_hugeLength_7cf53 37 = .ok (.ldc 210, 2) := by decide +kernel
theorem dJ8_hugeLength_7cf53_39 : decode cJ8_hugeLength_7cf53 39 = .ok (.invokevirtual 94, 3) := by decide +kernel
theorem dJ8_hugeLength_7cf53_42 : decode cJ8_hugeLength_7cf53 42 = .ok (.invokevirtual 101, 3) := by decide +kernel
theorem dJ8_hugeLength_7cf53_45 : decode cJ8_hugeLength_7cf53 45 = .ok (.invokespecial 212, 3) := by decide +kernel
theorem dJ8_hugeLength_7cf53_48 : decode cJ8_hugeLength_7cf53 48 = .ok (.athrow, 1) := by decide +kernel
theorem dJ8_hugeLength_7cf53_49 : decode cJ8_hugeLength_7cf53 49 = .ok (.iload_n 2, 1) := by decide +kernel
theorem dJ8_hugeLength_7cf53_50 : decode cJ8_hugeLength_7cf53 50 = .ok (.ldc 200, 2) := by decide +kernel
theorem dJ8_hugeLength_7cf53_52 : decode cJ8_hugeLength_7cf53 52 = .ok (.if_icmp .gt 6, 3) := by decide +kernel
theorem dJ8_hugeLength_7cf53_55 : decode cJ8_hugeLength_7cf53 55 = .ok (.ldc 200, 2) := by decide +kernel
theorem dJ8_hugeLength_7cf53_57 : decode cJ8_hugeLength_7cf53 57 = .ok (.ireturn, 1) := by decide +kernel
theorem dJ8_hugeLength_7cf53_58 : decode cJ8_hugeLength_7cf53 58 = .ok (.iload_n 2, 1) := by decide +kernel
theorem dJ8_hugeLength_7cf53_59 : decode cJ8_hugeLength_7cf53 59 = .ok (.ireturn, 1) := by decide +kernel
theorem dJ3_checkIndex_8e157_0 : decode cJ3_checkIndex_8e157 0 = .ok (.iload_n 0, 1) := by decide +kernel
theorem dJ3_checkIndex_8e157_1 : decode cJ3_checkIndex_8e157 1 = .ok (.ifCond .lt 8, 3) := by decide +kernel
theorem dJ3_checkIndex_8e157_4 : decode cJ3_checkIndex_8e157 4 = .ok (.iload_n 0, 1) := by decide +kernel
theorem dJ3_checkIndex_8e157_5 : decode cJ3_checkIndex_8e157 5 = .ok (.iload_n 1, 1) := by decide +kernel
theorem dJ3_checkIndex_8e157_6 : decode cJ3_checkIndex_8e157 6 = .ok (.if_icmp .lt 10, 3) := by decide +kernel
theorem dJ3_checkIndex_8e157_9 : decode cJ3_checkIndex_8e157 9 = .ok (.aload_n 2, 1) := by decide +kernel
theorem dJ3_checkIndex_8e157_10 : decode cJ3_checkIndex_8e157 10 = .ok (.iload_n 0, 1) := by decide +kernel
theorem dJ3_checkIndex_8e157_11 : decode cJ3_checkIndex_8e157 11 = .ok (.iload_n 1, 1) := by decide +kernel
theorem dJ3_checkIndex_8e157_12 : decode cJ3_checkIndex_8e157 12 = .ok (.invokestatic 95, 3) := by decide +kernel
theorem dJ3_checkIndex_8e157_15 : decode cJ3_checkIndex_8e157 15 = .ok (.athrow, 1) := by decide +kernel
theorem dJ3_checkIndex_8e157_16 : decode cJ3_checkIndex_8e157 16 = .ok (.iload_n 0, 1) := by decide +kernel
theorem dJ3_checkIndex_8e157_17 : decode cJ3_checkIndex_8e157 17 = .ok (.ireturn, 1) := by decide +kernel
theorem dL_cell_0 : decode cL_cell 0 = .ok (.iload_n 1, 1) := by decide +kernel
theorem dL_cell_1 : decode cL_cell 1 = .ok (.aload_n 0, 1) := by decide +kernel
theorem dL_cell_2 : decode cL_cell 2 = .ok (.arraylength, 1) := by decide +kernel
theorem dL_cell_3 : decode cL_cell 3 = .ok (.if_icmp .ge 9, 3) := by decide +kernel
theorem dL_cell_6 : decode cL_cell 6 = .ok (.aload_n 0, 1) := by decide +kernel
theorem dL_cell_7 : decode cL_cell 7 = .ok (.iload_n 1, 1) := by decide +kernel
theorem dL_cell_8 : decode cL_cell 8 = .ok (.iaload, 1) := by decide +kernel
theorem dL_cell_9 : decode cL_cell 9 = .ok (.goto 15, 3) := by decide +kernel
theorem dL_cell_12 : decode cL_cell 12 = .ok (.sipush 7919, 3) := by decide +kernel
theorem dL_cell_15 : decode cL_cell 15 = .ok (.iload_n 1, 1) := by decide +kernel
theorem dL_cell_16 : decode cL_cell 16 = .ok (.iconst 3, 1) := by decide +kernel
theorem dL_cell_17 : decode cL_cell 17 = .ok (.iadd, 1) := by decide +kernel
theorem dL_cell_18 : decode cL_cell 18 = .ok (.imul, 1) := by decide +kernel
theorem dL_cell_19 : decode cL_cell 19 = .ok (.iload_n 1, 1) := by decide +kernel
theorem dL_cell_20 : decode cL_cell 20 = .ok (.bipush 11, 2) := by decide +kernel
theorem dL_cell_22 : decode cL_cell 22 = .ok (.iadd, 1) := by decide +kernel
theorem dL_cell_23 : decode cL_cell 23 = .ok (.imul, 1) := by decide +kernel
theorem dL_cell_24 : decode cL_cell 24 = .ok (.ireturn, 1) := by decide +kernel
theorem dL_low_0 : decode cL_low 0 = .ok (.iload_n 0, 1) := by decide +kernel
theorem dL_low_1 : decode cL_low 1 = .ok (.ldc 7, 2) := by decide +kernel
theorem dL_low_3 : decode cL_low 3 = .ok (.iand, 1) := by decide +kernel
theorem dL_low_4 : decode cL_low 4 = .ok (.iload_n 1, 1) := by decide +kernel
theorem dL_low_5 : decode cL_low 5 = .ok (.irem, 1) := by decide +kernel
theorem dL_low_6 : decode cL_low 6 = .ok (.ireturn, 1) := by decide +kernel
theorem dL_areJobs_0 : decode cL_areJobs 0 = .ok (.iconst 0, 1) := by decide +kernel
theorem dL_areJobs_1 : decode cL_areJobs 1 = .ok (.istore_n 3, 1) := by decide +kernel
theorem dL_areJobs_2 : decode cL_areJobs 2 = .ok (.iconst 0, 1) := by decide +kernel
theorem dL_areJobs_3 : decode cL_areJobs 3 = .ok (.istore 4, 2) := by decide +kernel
theorem dL_areJobs_5 : decode cL_areJobs 5 = .ok (.iconst 1, 1) := by decide +kernel
theorem dL_areJobs_6 : decode cL_areJobs 6 = .ok (.istore 5, 2) := by decide +kernel
theorem dL_areJobs_8 : decode cL_areJobs 8 = .ok (.iconst 0, 1) := by decide +kernel
theorem dL_areJobs_9 : decode cL_areJobs 9 = .ok (.istore 6, 2) := by decide +kernel
theorem dL_areJobs_11 : decode cL_areJobs 11 = .ok (.iload 6, 2) := by decide +kernel
theorem dL_areJobs_13 : decode cL_areJobs 13 = .ok (.iconst 3, 1) := by decide +kernel
theorem dL_areJobs_14 : decode cL_areJobs 14 = .ok (.if_icmp .ge 138, 3) := by decide +kernel
theorem dL_areJobs_17 : decode cL_areJobs 17 = .ok (.iload 5, 2) := by decide +kernel
theorem dL_areJobs_19 : decode cL_areJobs 19 = .ok (.ifCond .eq 133, 3) := by decide +kernel
theorem dL_areJobs_22 : decode cL_areJobs 22 = .ok (.aload_n 0, 1) := by decide +kernel
theorem dL_areJobs_23 : decode cL_areJobs 23 = .ok (.iload 6, 2) := by decide +kernel
theorem dL_areJobs_25 : decode cL_areJobs 25 = .ok (.invokevirtual 8, 3) := by decide +kernel
theorem dL_areJobs_28 : decode cL_areJobs 28 = .ok (.istore 7, 2) := by decide +kernel
theorem dL_areJobs_30 : decode cL_areJobs 30 = .ok (.iload 4, 2) := by decide +kernel
theorem dL_areJobs_32 : decode cL_areJobs 32 = .ok (.aload_n 0, 1) := by decide +kernel
theorem dL_areJobs_33 : decode cL_areJobs 33 = .ok (.iload 6, 2) := by decide +kernel
theorem dL_areJobs_35 : decode cL_areJobs 35 = .ok (.invokevirtual 14, 3) := by decide +kernel
theorem dL_areJobs_38 : decode cL_areJobs 38 = .ok (.ifCond .le 7, 3) := by decide +kernel
theorem dL_areJobs_41 : decode cL_areJobs 41 = .ok (.iconst 1, 1) := by decide +kernel
theorem dL_areJobs_42 : decode cL_areJobs 42 = .ok (.goto 4, 3) := by decide +kernel
theorem dL_areJobs_45 : decode cL_areJobs 45 = .ok (.iconst 0, 1) := by decide +kernel
theorem dL_areJobs_46 : decode cL_areJobs 46 = .ok (.iadd, 1) := by decide +kernel
theorem dL_areJobs_47 : decode cL_areJobs 47 = .ok (.istore 4, 2) := by decide +kernel
theorem dL_areJobs_49 : decode cL_areJobs 49 = .ok (.iload 7, 2) := by decide +kernel
theorem dL_areJobs_51 : decode cL_areJobs 51 = .ok (.iconst (-1), 1) := by decide +kernel
theorem dL_areJobs_52 : decode cL_areJobs 52 = .ok (.if_icmp .lt 47, 3) := by decide +kernel
theorem dL_areJobs_55 : decode cL_areJobs 55 = .ok (.iload 7, 2) := by decide +kernel
theorem dL_areJobs_57 : decode cL_areJobs 57 = .ok (.iload_n 2, 1) := by decide +kernel
theorem dL_areJobs_58 : decode cL_areJobs 58 = .ok (.if_icmp .ge 41, 3) := by decide +kernel
theorem dL_areJobs_61 : decode cL_areJobs 61 = .ok (.aload_n 0, 1) := by decide +kernel
theorem dL_areJobs_62 : decode cL_areJobs 62 = .ok (.iload 6, 2) := by decide +kernel
theorem dL_areJobs_64 : decode cL_areJobs 64 = .ok (.invokevirtual 14, 3) := by decide +kernel
theorem dL_areJobs_67 : decode cL_areJobs 67 = .ok (.ifCond .lt 32, 3) := by decide +kernel
theorem dL_areJobs_70 : decode cL_areJobs 70 = .ok (.aload_n 0, 1) := by decide +kernel
theorem dL_areJobs_71 : decode cL_areJobs 71 = .ok (.iload 6, 2) := by decide +kernel
theorem dL_areJobs_73 : decode cL_areJobs 73 = .ok (.invokevirtual 14, 3) := by decide +kernel
theorem dL_areJobs_76 : decode cL_areJobs 76 = .ok (.bipush 63, 2) := by decide +kernel
theorem dL_areJobs_78 : decode cL_areJobs 78 = .ok (.if_icmp .gt 21, 3) := by decide +kernel
theorem dL_areJobs_81 : decode cL_areJobs 81 = .ok (.iload 7, 2) := by decide +kernel
theorem dL_areJobs_83 : decode cL_areJobs 83 = .ok (.ifCond .ge 12, 3) := by decide +kernel
theorem dL_areJobs_86 : decode cL_areJobs 86 = .ok (.aload_n 0, 1) := by decide +kernel
theorem dL_areJobs_87 : decode cL_areJobs 87 = .ok (.iload 6, 2) := by decide +kernel
theorem dL_areJobs_89 : decode cL_areJobs 89 = .ok (.invokevirtual 14, 3) := by decide +kernel
theorem dL_areJobs_92 : decode cL_areJobs 92 = .ok (.ifCond .ne 7, 3) := by decide +kernel
theorem dL_areJobs_95 : decode cL_areJobs 95 = .ok (.iconst 1, 1) := by decide +kernel
theorem dL_areJobs_96 : decode cL_areJobs 96 = .ok (.goto 4, 3) := by decide +kernel
theorem dL_areJobs_99 : decode cL_areJobs 99 = .ok (.iconst 0, 1) := by decide +kernel
theorem dL_areJobs_100 : decode cL_areJobs 100 = .ok (.istore 5, 2) := by decide +kernel
theorem dL_areJobs_102 : decode cL_areJobs 102 = .ok (.iconst 0, 1) := by decide +kernel
theorem dL_areJobs_103 : decode cL_areJobs 103 = .ok (.istore 8, 2) := by decide +kernel
theorem dL_areJobs_105 : decode cL_areJobs 105 = .ok (.iload 8, 2) := by decide +kernel
theorem dL_areJobs_107 : decode cL_areJobs 107 = .ok (.iload 6, 2) := by decide +kernel
theorem dL_areJobs_109 : decode cL_areJobs 109 = .ok (.if_icmp .ge 37, 3) := by decide +kernel
theorem dL_areJobs_112 : decode cL_areJobs 112 = .ok (.iload 5, 2) := by decide +kernel
theorem dL_areJobs_114 : decode cL_areJobs 114 = .ok (.ifCond .eq 32, 3) := by decide +kernel
theorem dL_areJobs_117 : decode cL_areJobs 117 = .ok (.iload 7, 2) := by decide +kernel
theorem dL_areJobs_119 : decode cL_areJobs 119 = .ok (.ifCond .lt 14, 3) := by decide +kernel
theorem dL_areJobs_122 : decode cL_areJobs 122 = .ok (.aload_n 0, 1) := by decide +kernel
theorem dL_areJobs_123 : decode cL_areJobs 123 = .ok (.iload 8, 2) := by decide +kernel
theorem dL_areJobs_125 : decode cL_areJobs 125 = .ok (.invokevirtual 8, 3) := by decide +kernel
theorem dL_areJobs_128 : decode cL_areJobs 128 = .ok (.iload 7, 2) := by decide +kernel
theorem dL_areJobs_130 : decode cL_areJobs 130 = .ok (.if_icmp .eq 7, 3) := by decide +kernel
theorem dL_areJobs_133 : decode cL_areJobs 133 = .ok (.iconst 1, 1) := by decide +kernel
theorem dL_areJobs_134 : decode cL_areJobs 134 = .ok (.goto 4, 3) := by decide +kernel
theorem dL_areJobs_137 : decode cL_areJobs 137 = .ok (.iconst 0, 1) := by decide +kernel
theorem dL_areJobs_138 : decode cL_areJobs 138 = .ok (.istore 5, 2) := by decide +kernel
theorem dL_areJobs_140 : decode cL_areJobs 140 = .ok (.iinc 8 1, 3) := by decide +kernel
theorem dL_areJobs_143 : decode cL_areJobs 143 = .ok (.goto (-38), 3) := by decide +kernel
theorem dL_areJobs_146 : decode cL_areJobs 146 = .ok (.iinc 6 1, 3) := by decide +kernel
theorem dL_areJobs_149 : decode cL_areJobs 149 = .ok (.goto (-138), 3) := by decide +kernel
theorem dL_areJobs_152 : decode cL_areJobs 152 = .ok (.iconst 0, 1) := by decide +kernel
theorem dL_areJobs_153 : decode cL_areJobs 153 = .ok (.istore 6, 2) := by decide +kernel
theorem dL_areJobs_155 : decode cL_areJobs 155 = .ok (.iload 6, 2) := by decide +kernel
theorem dL_areJobs_157 : decode cL_areJobs 157 = .ok (.iload_n 1, 1) := by decide +kernel
theorem dL_areJobs_158 : decode cL_areJobs 158 = .ok (.if_icmp .ge 86, 3) := by decide +kernel
theorem dL_areJobs_161 : decode cL_areJobs 161 = .ok (.iload 5, 2) := by decide +kernel
theorem dL_areJobs_163 : decode cL_areJobs 163 = .ok (.ifCond .eq 81, 3) := by decide +kernel
theorem dL_areJobs_166 : decode cL_areJobs 166 = .ok (.aload_n 0, 1) := by decide +kernel
theorem dL_areJobs_167 : decode cL_areJobs 167 = .ok (.iload 6, 2) := by decide +kernel
theorem dL_areJobs_169 : decode cL_areJobs 169 = .ok (.invokevirtual 17, 3) := by decide +kernel
theorem dL_areJobs_172 : decode cL_areJobs 172 = .ok (.istore 7, 2) := by decide +kernel
theorem dL_areJobs_174 : decode cL_areJobs 174 = .ok (.iload_n 3, 1) := by decide +kernel
theorem dL_areJobs_175 : decode cL_areJobs 175 = .ok (.iload 7, 2) := by decide +kernel
theorem dL_areJobs_177 : decode cL_areJobs 177 = .ok (.iadd, 1) := by decide +kernel
theorem dL_areJobs_178 : decode cL_areJobs 178 = .ok (.istore_n 3, 1) := by decide +kernel
theorem dL_areJobs_179 : decode cL_areJobs 179 = .ok (.iload 7, 2) := by decide +kernel
theorem dL_areJobs_181 : decode cL_areJobs 181 = .ok (.ifCond .lt 54, 3) := by decide +kernel
theorem dL_areJobs_184 : decode cL_areJobs 184 = .ok (.iload 7, 2) := by decide +kernel
theorem dL_areJobs_186 : decode cL_areJobs 186 = .ok (.bipush 8, 2) := by decide +kernel
theorem dL_areJobs_188 : decode cL_areJobs 188 = .ok (.if_icmp .gt 47, 3) := by decide +kernel
theorem dL_areJobs_191 : decode cL_areJobs 191 = .ok (.aload_n 0, 1) := by decide +kernel
theorem dL_areJobs_192 : decode cL_areJobs 192 = .ok (.iload 6, 2) := by decide +kernel
theorem dL_areJobs_194 : decode cL_areJobs 194 = .ok (.invokevirtual 20, 3) := by decide +kernel
theorem dL_areJobs_197 : decode cL_areJobs 197 = .ok (.ifCond .lt 7, 3) := by decide +kernel
theorem dL_areJobs_200 : decode cL_areJobs 200 = .ok (.iconst 1, 1) := by decide +kernel
theorem dL_areJobs_201 : decode cL_areJobs 201 = .ok (.goto 4, 3) := by decide +kernel
theorem dL_areJobs_204 : decode cL_areJobs 204 = .ok (.iconst 0, 1) := by decide +kernel
theorem dL_areJobs_205 : decode cL_areJobs 205 = .ok (.iload 7, 2) := by decide +kernel
theorem dL_areJobs_207 : decode cL_areJobs 207 = .ok (.ifCond .ne 7, 3) := by decide +kernel
theorem dL_areJobs_210 : decode cL_areJobs 210 = .ok (.iconst 1, 1) := by decide +kernel
theorem dL_areJobs_211 : decode cL_areJobs 211 = .ok (.goto 4, 3) := by decide +kernel
theorem dL_areJobs_214 : decode cL_areJobs 214 = .ok (.iconst 0, 1) := by decide +kernel
theorem dL_areJobs_215 : decode cL_areJobs 215 = .ok (.if_icmp .ne 20, 3) := by decide +kernel
theorem dL_areJobs_218 : decode cL_areJobs 218 = .ok (.aload_n 0, 1) := by decide +kernel
theorem dL_areJobs_219 : decode cL_areJobs 219 = .ok (.iload 6, 2) := by decide +kernel
theorem dL_areJobs_221 : decode cL_areJobs 221 = .ok (.invokevirtual 20, 3) := by decide +kernel
theorem dL_areJobs_224 : decode cL_areJobs 224 = .ok (.aload_n 0, 1) := by decide +kernel
theorem dL_areJobs_225 : decode cL_areJobs 225 = .ok (.invokevirtual 23, 3) := by decide +kernel
theorem dL_areJobs_228 : decode cL_areJobs 228 = .ok (.if_icmp .gt 7, 3) := by decide +kernel
theorem dL_areJobs_231 : decode cL_areJobs 231 = .ok (.iconst 1, 1) := by decide +kernel
theorem dL_areJobs_232 : decode cL_areJobs 232 = .ok (.goto 4, 3) := by decide +kernel
theorem dL_areJobs_235 : decode cL_areJobs 235 = .ok (.iconst 0, 1) := by decide +kernel
theorem dL_areJobs_236 : decode cL_areJobs 236 = .ok (.istore 5, 2) := by decide +kernel
theorem dL_areJobs_238 : decode cL_areJobs 238 = .ok (.iinc 6 1, 3) := by decide +kernel
theorem dL_areJobs_241 : decode cL_areJobs 241 = .ok (.goto (-86), 3) := by decide +kernel
theorem dL_areJobs_244 : decode cL_areJobs 244 = .ok (.iload 5, 2) := by decide +kernel
theorem dL_areJobs_246 : decode cL_areJobs 246 = .ok (.ifCond .eq 18, 3) := by decide +kernel
theorem dL_areJobs_249 : decode cL_areJobs 249 = .ok (.aload_n 0, 1) := by decide +kernel
theorem dL_areJobs_250 : decode cL_areJobs 250 = .ok (.invokevirtual 27, 3) := by decide +kernel
theorem dL_areJobs_253 : decode cL_areJobs 253 = .ok (.iload 4, 2) := by decide +kernel
theorem dL_areJobs_255 : decode cL_areJobs 255 = .ok (.iadd, 1) := by decide +kernel
theorem dL_areJobs_256 : decode cL_areJobs 256 = .ok (.iload_n 3, 1) := by decide +kernel
theorem dL_areJobs_257 : decode cL_areJobs 257 = .ok (.if_icmp .ne 7, 3) := by decide +kernel
theorem dL_areJobs_260 : decode cL_areJobs 260 = .ok (.iconst 1, 1) := by decide +kernel
theorem dL_areJobs_261 : decode cL_areJobs 261 = .ok (.goto 4, 3) := by decide +kernel
theorem dL_areJobs_264 : decode cL_areJobs 264 = .ok (.iconst 0, 1) := by decide +kernel
theorem dL_areJobs_265 : decode cL_areJobs 265 = .ok (.ireturn, 1) := by decide +kernel
theorem dL_isTrain_0 : decode cL_isTrain 0 = .ok (.aload_n 0, 1) := by decide +kernel
theorem dL_isTrain_1 : decode cL_isTrain 1 = .ok (.iload_n 1, 1) := by decide +kernel
theorem dL_isTrain_2 : decode cL_isTrain 2 = .ok (.invokevirtual 30, 3) := by decide +kernel
theorem dL_isTrain_5 : decode cL_isTrain 5 = .ok (.istore 5, 2) := by decide +kernel
theorem dL_isTrain_7 : decode cL_isTrain 7 = .ok (.aload_n 0, 1) := by decide +kernel
theorem dL_isTrain_8 : decode cL_isTrain 8 = .ok (.iload_n 1, 1) := by decide +kernel
theorem dL_isTrain_9 : decode cL_isTrain 9 = .ok (.invokevirtual 33, 3) := by decide +kernel
theorem dL_isTrain_12 : decode cL_isTrain 12 = .ok (.istore 6, 2) := by decide +kernel
theorem dL_isTrain_14 : decode cL_isTrain 14 = .ok (.iload 5, 2) := by decide +kernel
theorem dL_isTrain_16 : decode cL_isTrain 16 = .ok (.iconst 1, 1) := by decide +kernel
theorem dL_isTrain_17 : decode cL_isTrain 17 = .ok (.if_icmp .lt 29, 3) := by decide +kernel
theorem dL_isTrain_20 : decode cL_isTrain 20 = .ok (.iload 6, 2) := by decide +kernel
theorem dL_isTrain_22 : decode cL_isTrain 22 = .ok (.iconst 1, 1) := by decide +kernel
theorem dL_isTrain_23 : decode cL_isTrain 23 = .ok (.if_icmp .lt 23, 3) := by decide +kernel
theorem dL_isTrain_26 : decode cL_isTrain 26 = .ok (.iload 5, 2) := by decide +kernel
theorem dL_isTrain_28 : decode cL_isTrain 28 = .ok (.i2l, 1) := by decide +kernel
theorem dL_isTrain_29 : decode cL_isTrain 29 = .ok (.iload_n 3, 1) := by decide +kernel
theorem dL_isTrain_30 : decode cL_isTrain 30 = .ok (.i2l, 1) := by decide +kernel
theorem dL_isTrain_31 : decode cL_isTrain 31 = .ok (.lmul, 1) := by decide +kernel
theorem dL_isTrain_32 : decode cL_isTrain 32 = .ok (.iload 6, 2) := by decide +kernel
theorem dL_isTrain_34 : decode cL_isTrain 34 = .ok (.i2l, 1) := by decide +kernel
theorem dL_isTrain_35 : decode cL_isTrain 35 = .ok (.iload_n 2, 1) := by decide +kernel
theorem dL_isTrain_36 : decode cL_isTrain 36 = .ok (.i2l, 1) := by decide +kernel
theorem dL_isTrain_37 : decode cL_isTrain 37 = .ok (.lmul, 1) := by decide +kernel
theorem dL_isTrain_38 : decode cL_isTrain 38 = .ok (.lcmp, 1) := by decide +kernel
theorem dL_isTrain_39 : decode cL_isTrain 39 = .ok (.ifCond .ne 7, 3) := by decide +kernel
theorem dL_isTrain_42 : decode cL_isTrain 42 = .ok (.iconst 1, 1) := by decide +kernel
theorem dL_isTrain_43 : decode cL_isTrain 43 = .ok (.goto 4, 3) := by decide +kernel
theorem dL_isTrain_46 : decode cL_isTrain 46 = .ok (.iconst 0, 1) := by decide +kernel
theorem dL_isTrain_47 : decode cL_isTrain 47 = .ok (.istore 7, 2) := by decide +kernel
theorem dL_isTrain_49 : decode cL_isTrain 49 = .ok (.iconst 2, 1) := by decide +kernel
theorem dL_isTrain_50 : decode cL_isTrain 50 = .ok (.istore 8, 2) := by decide +kernel
theorem dL_isTrain_52 : decode cL_isTrain 52 = .ok (.iload 8, 2) := by decide +kernel
theorem dL_isTrain_54 : decode cL_isTrain 54 = .ok (.bipush 60, 2) := by decide +kernel
theorem dL_isTrain_56 : decode cL_isTrain 56 = .ok (.if_icmp .gt 37, 3) := by decide +kernel
theorem dL_isTrain_59 : decode cL_isTrain 59 = .ok (.iload 7, 2) := by decide +kernel
theorem dL_isTrain_61 : decode cL_isTrain 61 = .ok (.ifCond .eq 32, 3) := by decide +kernel
theorem dL_isTrain_64 : decode cL_isTrain 64 = .ok (.iload 5, 2) := by decide +kernel
theorem dL_isTrain_66 : decode cL_isTrain 66 = .ok (.iload 8, 2) := by decide +kernel
theorem dL_isTrain_68 : decode cL_isTrain 68 = .ok (.irem, 1) := by decide +kernel
theorem dL_isTrain_69 : decode cL_isTrain 69 = .ok (.ifCond .ne 11, 3) := by decide +kernel
theorem dL_isTrain_72 : decode cL_isTrain 72 = .ok (.iload 6, 2) := by decide +kernel
theorem dL_isTrain_74 : decode cL_isTrain 74 = .ok (.iload 8, 2) := by decide +kernel
theorem dL_isTrain_76 : decode cL_isTrain 76 = .ok (.irem, 1) := by decide +kernel
theorem dL_isTrain_77 : decode cL_isTrain 77 = .ok (.ifCond .eq 7, 3) := by decide +kernel
theorem dL_isTrain_80 : decode cL_isTrain 80 = .ok (.iconst 1, 1) := by decide +kernel
theorem dL_isTrain_81 : decode cL_isTrain 81 = .ok (.goto 4, 3) := by decide +kernel
theorem dL_isTrain_84 : decode cL_isTrain 84 = .ok (.iconst 0, 1) := by decide +kernel
theorem dL_isTrain_85 : decode cL_isTrain 85 = .ok (.istore 7, 2) := by decide +kernel
theorem dL_isTrain_87 : decode cL_isTrain 87 = .ok (.iinc 8 1, 3) := by decide +kernel
theorem dL_isTrain_90 : decode cL_isTrain 90 = .ok (.goto (-38), 3) := by decide +kernel
theorem dL_isTrain_93 : decode cL_isTrain 93 = .ok (.iload 7, 2) := by decide +kernel
theorem dL_isTrain_95 : decode cL_isTrain 95 = .ok (.ifCond .eq 47, 3) := by decide +kernel
theorem dL_isTrain_98 : decode cL_isTrain 98 = .ok (.aload_n 0, 1) := by decide +kernel
theorem dL_isTrain_99 : decode cL_isTrain 99 = .ok (.iload_n 1, 1) := by decide +kernel
theorem dL_isTrain_100 : decode cL_isTrain 100 = .ok (.iload 4, 2) := by decide +kernel
theorem dL_isTrain_102 : decode cL_isTrain 102 = .ok (.invokevirtual 36, 3) := by decide +kernel
theorem dL_isTrain_105 : decode cL_isTrain 105 = .ok (.aload_n 0, 1) := by decide +kernel
theorem dL_isTrain_106 : decode cL_isTrain 106 = .ok (.iload_n 1, 1) := by decide +kernel
theorem dL_isTrain_107 : decode cL_isTrain 107 = .ok (.iload 4, 2) := by decide +kernel
theorem dL_isTrain_109 : decode cL_isTrain 109 = .ok (.invokevirtual 40, 3) := by decide +kernel
theorem dL_isTrain_112 : decode cL_isTrain 112 = .ok (.if_icmp .ne 30, 3) := by decide +kernel
theorem dL_isTrain_115 : decode cL_isTrain 115 = .ok (.aload_n 0, 1) := by decide +kernel
theorem dL_isTrain_116 : decode cL_isTrain 116 = .ok (.iload_n 1, 1) := by decide +kernel
theorem dL_isTrain_117 : decode cL_isTrain 117 = .ok (.iload 4, 2) := by decide +kernel
theorem dL_isTrain_119 : decode cL_isTrain 119 = .ok (.invokevirtual 36, 3) := by decide +kernel
theorem dL_isTrain_122 : decode cL_isTrain 122 = .ok (.i2l, 1) := by decide +kernel
theorem dL_isTrain_123 : decode cL_isTrain 123 = .ok (.iload 4, 2) := by decide +kernel
theorem dL_isTrain_125 : decode cL_isTrain 125 = .ok (.i2l, 1) := by decide +kernel
theorem dL_isTrain_126 : decode cL_isTrain 126 = .ok (.iload 6, 2) := by decide +kernel
theorem dL_isTrain_128 : decode cL_isTrain 128 = .ok (.i2l, 1) := by decide +kernel
theorem dL_isTrain_129 : decode cL_isTrain 129 = .ok (.lmul, 1) := by decide +kernel
theorem dL_isTrain_130 : decode cL_isTrain 130 = .ok (.iload 5, 2) := by decide +kernel
theorem dL_isTrain_132 : decode cL_isTrain 132 = .ok (.i2l, 1) := by decide +kernel
theorem dL_isTrain_133 : decode cL_isTrain 133 = .ok (.ldiv, 1) := by decide +kernel
theorem dL_isTrain_134 : decode cL_isTrain 134 = .ok (.lcmp, 1) := by decide +kernel
theorem dL_isTrain_135 : decode cL_isTrain 135 = .ok (.ifCond .ne 7, 3) := by decide +kernel
theorem dL_isTrain_138 : decode cL_isTrain 138 = .ok (.iconst 1, 1) := by decide +kernel
theorem dL_isTrain_139 : decode cL_isTrain 139 = .ok (.goto 4, 3) := by decide +kernel
theorem dL_isTrain_142 : decode cL_isTrain 142 = .ok (.iconst 0, 1) := by decide +kernel
theorem dL_isTrain_143 : decode cL_isTrain 143 = .ok (.ireturn, 1) := by decide +kernel
theorem dL_law_0 : decode cL_law 0 = .ok (.new 9, 3) := by decide +kernel
theorem dL_law_3 : decode cL_law 3 = .ok (.dup, 1) := by decide +kernel
theorem dL_law_4 : decode cL_law 4 = .ok (.invokespecial 43, 3) := by decide +kernel
theorem dL_law_7 : decode cL_law 7 = .ok (.astore_n 1, 1) := by decide +kernel
theorem dL_law_8 : decode cL_law 8 = .ok (.bipush 8, 2) := by decide +kernel
theorem dL_law_10 : decode cL_law 10 = .ok (.newarray .int, 2) := by decide +kernel
theorem dL_law_12 : decode cL_law 12 = .ok (.astore_n 2, 1) := by decide +kernel
theorem dL_law_13 : decode cL_law 13 = .ok (.bipush 8, 2) := by decide +kernel
theorem dL_law_15 : decode cL_law 15 = .ok (.newarray .int, 2) := by decide +kernel
theorem dL_law_17 : decode cL_law 17 = .ok (.astore_n 3, 1) := by decide +kernel
theorem dL_law_18 : decode cL_law 18 = .ok (.bipush 12, 2) := by decide +kernel
theorem dL_law_20 : decode cL_law 20 = .ok (.newarray .int, 2) := by decide +kernel
theorem dL_law_22 : decode cL_law 22 = .ok (.astore 4, 2) := by decide +kernel
theorem dL_law_24 : decode cL_law 24 = .ok (.bipush 12, 2) := by decide +kernel
theorem dL_law_26 : decode cL_law 26 = .ok (.newarray .int, 2) := by decide +kernel
theorem dL_law_28 : decode cL_law 28 = .ok (.astore 5, 2) := by decide +kernel
theorem dL_law_30 : decode cL_law 30 = .ok (.iconst 0, 1) := by decide +kernel
theorem dL_law_31 : decode cL_law 31 = .ok (.istore 6, 2) := by decide +kernel
theorem dL_law_33 : decode cL_law 33 = .ok (.iconst 0, 1) := by decide +kernel
theorem dL_law_34 : decode cL_law 34 = .ok (.istore 7, 2) := by decide +kernel
theorem dL_law_36 : decode cL_law 36 = .ok (.iconst 0, 1) := by decide +kernel
theorem dL_law_37 : decode cL_law 37 = .ok (.istore 8, 2) := by decide +kernel
theorem dL_law_39 : decode cL_law 39 = .ok (.iconst 0, 1) := by decide +kernel
theorem dL_law_40 : decode cL_law 40 = .ok (.istore 9, 2) := by decide +kernel
theorem dL_law_42 : decode cL_law 42 = .ok (.iconst 0, 1) := by decide +kernel
theorem dL_law_43 : decode cL_law 43 = .ok (.istore 10, 2) := by decide +kernel
theorem dL_law_45 : decode cL_law 45 = .ok (.iload 10, 2) := by decide +kernel
theorem dL_law_47 : decode cL_law 47 = .ok (.bipush 50, 2) := by decide +kernel
theorem dL_law_49 : decode cL_law 49 = .ok (.if_icmp .ge 693, 3) := by decide +kernel
theorem dL_law_52 : decode cL_law 52 = .ok (.aload_n 0, 1) := by decide +kernel
theorem dL_law_53 : decode cL_law 53 = .ok (.iconst 2, 1) := by decide +kernel
theorem dL_law_54 : decode cL_law 54 = .ok (.iload 10, 2) := by decide +kernel
theorem dL_law_56 : decode cL_law 56 = .ok (.imul, 1) := by decide +kernel
theorem dL_law_57 : decode cL_law 57 = .ok (.invokestatic 44, 3) := by decide +kernel
theorem dL_law_60 : decode cL_law 60 = .ok (.istore 11, 2) := by decide +kernel
theorem dL_law_62 : decode cL_law 62 = .ok (.aload_n 0, 1) := by decide +kernel
theorem dL_law_63 : decode cL_law 63 = .ok (.iconst 2, 1) := by decide +kernel
theorem dL_law_64 : decode cL_law 64 = .ok (.iload 10, 2) := by decide +kernel
theorem dL_law_66 : decode cL_law 66 = .ok (.imul, 1) := by decide +kernel
theorem dL_law_67 : decode cL_law 67 = .ok (.iconst 1, 1) := by decide +kernel
theorem dL_law_68 : decode cL_law 68 = .ok (.iadd, 1) := by decide +kernel
theorem dL_law_69 : decode cL_law 69 = .ok (.invokestatic 44, 3) := by decide +kernel
theorem dL_law_72 : decode cL_law 72 = .ok (.istore 12, 2) := by decide +kernel
theorem dL_law_74 : decode cL_law 74 = .ok (.iload 11, 2) := by decide +kernel
theorem dL_law_76 : decode cL_law 76 = .ok (.bipush 10, 2) := by decide +kernel
theorem dL_law_78 : decode cL_law 78 = .ok (.invokestatic 50, 3) := by decide +kernel
theorem dL_law_81 : decode cL_law 81 = .ok (.istore 13, 2) := by decide +kernel
theorem dL_law_83 : decode cL_law 83 = .ok (.iconst 1, 1) := by decide +kernel
theorem dL_law_84 : decode cL_law 84 = .ok (.istore 14, 2) := by decide +kernel
theorem dL_law_86 : decode cL_law 86 = .ok (.iload 6, 2) := by decide +kernel
theorem dL_law_88 : decode cL_law 88 = .ok (.iconst 2, 1) := by decide +kernel
theorem dL_law_89 : decode cL_law 89 = .ok (.if_icmp .lt 15, 3) := by decide +kernel
theorem dL_law_92 : decode cL_law 92 = .ok (.iload 13, 2) := by decide +kernel
theorem dL_law_94 : decode cL_law 94 = .ok (.ifCond .ne 72, 3) := by decide +kernel
theorem dL_law_97 : decode cL_law 97 = .ok (.iload 6, 2) := by decide +kernel
theorem dL_law_99 : decode cL_law 99 = .ok (.bipush 10, 2) := by decide +kernel
theorem dL_law_101 : decode cL_law 101 = .ok (.if_icmp .ge 65, 3) := by decide +kernel
theorem dL_law_104 : decode cL_law 104 = .ok (.bipush 8, 2) := by decide +kernel
theorem dL_law_106 : decode cL_law 106 = .ok (.iload 12, 2) := by decide +kernel
theorem dL_law_108 : decode cL_law 108 = .ok (.iconst 2, 1) := by decide +kernel
theorem dL_law_109 : decode cL_law 109 = .ok (.ishr, 1) := by decide +kernel
theorem dL_law_110 : decode cL_law 110 = .ok (.bipush 20, 2) := by decide +kernel
theorem dL_law_112 : decode cL_law 112 = .ok (.invokestatic 50, 3) := by decide +kernel
theorem dL_law_115 : decode cL_law 115 = .ok (.iadd, 1) := by decide +kernel
theorem dL_law_116 : decode cL_law 116 = .ok (.istore 15, 2) := by decide +kernel
theorem dL_law_118 : decode cL_law 118 = .ok (.aload_n 1, 1) := by decide +kernel
theorem dL_law_119 : decode cL_law 119 = .ok (.iconst 1, 1) := by decide +kernel
theorem dL_law_120 : decode cL_law 120 = .ok (.iload 12, 2) := by decide +kernel
theorem dL_law_122 : decode cL_law 122 = .ok (.iconst 2, 1) := by decide +kernel
theorem dL_law_123 : decode cL_law 123 = .ok (.invokestatic 50, 3) := by decide +kernel
theorem dL_law_126 : decode cL_law 126 = .ok (.iadd, 1) := by decide +kernel
theorem dL_law_127 : decode cL_law 127 = .ok (.iload 15, 2) := by decide +kernel
theorem dL_law_129 : decode cL_law 129 = .ok (.iload 15, 2) := by decide +kernel
theorem dL_law_131 : decode cL_law 131 = .ok (.iload 12, 2) := by decide +kernel
theorem dL_law_133 : decode cL_law 133 = .ok (.bipush 7, 2) := by decide +kernel
theorem dL_law_135 : decode cL_law 135 = .ok (.ishr, 1) := by decide +kernel
theorem dL_law_136 : decode cL_law 136 = .ok (.bipush 61, 2) := by decide +kernel
theorem dL_law_138 : decode cL_law 138 = .ok (.iload 15, 2) := by decide +kernel
theorem dL_law_140 : decode cL_law 140 = .ok (.isub, 1) := by decide +kernel
theorem dL_law_141 : decode cL_law 141 = .ok (.invokestatic 50, 3) := by decide +kernel
theorem dL_law_144 : decode cL_law 144 = .ok (.iadd, 1) := by decide +kernel
theorem dL_law_145 : decode cL_law 145 = .ok (.invokevirtual 53, 3) := by decide +kernel
theorem dL_law_148 : decode cL_law 148 = .ok (.iload 6, 2) := by decide +kernel
theorem dL_law_150 : decode cL_law 150 = .ok (.if_icmp .ne 7, 3) := by decide +kernel
theorem dL_law_153 : decode cL_law 153 = .ok (.iconst 1, 1) := by decide +kernel
theorem dL_law_154 : decode cL_law 154 = .ok (.goto 4, 3) := by decide +kernel
theorem dL_law_157 : decode cL_law 157 = .ok (.iconst 0, 1) := by decide +kernel
theorem dL_law_158 : decode cL_law 158 = .ok (.istore 14, 2) := by decide +kernel
theorem dL_law_160 : decode cL_law 160 = .ok (.iinc 6 1, 3) := by decide +kernel
theorem dL_law_163 : decode cL_law 163 = .ok (.goto 506, 3) := by decide +kernel
theorem dL_law_166 : decode cL_law 166 = .ok (.iload 13, 2) := by decide +kernel
theorem dL_law_168 : decode cL_law 168 = .ok (.iconst 4, 1) := by decide +kernel
theorem dL_law_169 : decode cL_law 169 = .ok (.if_icmp .ge 234, 3) := by decide +kernel
theorem dL_law_172 : decode cL_law 172 = .ok (.iload 7, 2) := by decide +kernel
theorem dL_law_174 : decode cL_law 174 = .ok (.bipush 8, 2) := by decide +kernel
theorem dL_law_176 : decode cL_law 176 = .ok (.if_icmp .ge 227, 3) := by decide +kernel
theorem dL_law_179 : decode cL_law 179 = .ok (.iconst 1, 1) := by decide +kernel
theorem dL_law_180 : decode cL_law 180 = .ok (.iload 12, 2) := by decide +kernel
theorem dL_law_182 : decode cL_law 182 = .ok (.iconst 3, 1) := by decide +kernel
theorem dL_law_183 : decode cL_law 183 = .ok (.invokestatic 50, 3) := by decide +kernel
theorem dL_law_186 : decode cL_law 186 = .ok (.iadd, 1) := by decide +kernel
theorem dL_law_187 : decode cL_law 187 = .ok (.istore 15, 2) := by decide +kernel
theorem dL_law_189 : decode cL_law 189 = .ok (.iconst 0, 1) := by decide +kernel
theorem dL_law_190 : decode cL_law 190 = .ok (.istore 16, 2) := by decide +kernel
theorem dL_law_192 : decode cL_law 192 = .ok (.iconst 1, 1) := by decide +kernel
theorem dL_law_193 : decode cL_law 193 = .ok (.istore 17, 2) := by decide +kernel
theorem dL_law_195 : decode cL_law 195 = .ok (.iconst 1, 1) := by decide +kernel
theorem dL_law_196 : decode cL_law 196 = .ok (.istore 18, 2) := by decide +kernel
theorem dL_law_198 : decode cL_law 198 = .ok (.iconst 1, 1) := by decide +kernel
theorem dL_law_199 : decode cL_law 199 = .ok (.istore 19, 2) := by decide +kernel
theorem dL_law_201 : decode cL_law 201 = .ok (.iconst 0, 1) := by decide +kernel
theorem dL_law_202 : decode cL_law 202 = .ok (.istore 20, 2) := by decide +kernel
theorem dL_law_204 : decode cL_law 204 = .ok (.iload 20, 2) := by decide +kernel
theorem dL_law_206 : decode cL_law 206 = .ok (.iload 15, 2) := by decide +kernel
theorem dL_law_208 : decode cL_law 208 = .ok (.if_icmp .ge 122, 3) := by decide +kernel
theorem dL_law_211 : decode cL_law 211 = .ok (.iconst 1, 1) := by decide +kernel
theorem dL_law_212 : decode cL_law 212 = .ok (.iload 12, 2) := by decide +kernel
theorem dL_law_214 : decode cL_law 214 = .ok (.iconst 2, 1) := by decide +kernel
theorem dL_law_215 : decode cL_law 215 = .ok (.iload 20, 2) := by decide +kernel
theorem dL_law_217 : decode cL_law 217 = .ok (.iadd, 1) := by decide +kernel
theorem dL_law_218 : decode cL_law 218 = .ok (.ishr, 1) := by decide +kernel
theorem dL_law_219 : decode cL_law 219 = .ok (.iconst 2, 1) := by decide +kernel
theorem dL_law_220 : decode cL_law 220 = .ok (.invokestatic 50, 3) := by decide +kernel
theorem dL_law_223 : decode cL_law 223 = .ok (.iadd, 1) := by decide +kernel
theorem dL_law_224 : decode cL_law 224 = .ok (.istore 21, 2) := by decide +kernel
theorem dL_law_226 : decode cL_law 226 = .ok (.bipush 8, 2) := by decide +kernel
theorem dL_law_228 : decode cL_law 228 = .ok (.iload 12, 2) := by decide +kernel
theorem dL_law_230 : decode cL_law 230 = .ok (.iconst 4, 1) := by decide +kernel
theorem dL_law_231 : decode cL_law 231 = .ok (.iconst 5, 1) := by decide +kernel
theorem dL_law_232 : decode cL_law 232 = .ok (.iload 20, 2) := by decide +kernel
theorem dL_law_234 : decode cL_law 234 = .ok (.imul, 1) := by decide +kernel
theorem dL_law_235 : decode cL_law 235 = .ok (.iadd, 1) := by decide +kernel
theorem dL_law_236 : decode cL_law 236 = .ok (.ishr, 1) := by decide +kernel
theorem dL_law_237 : decode cL_law 237 = .ok (.bipush 53, 2) := by decide +kernel
theorem dL_law_239 : decode cL_law 239 = .ok (.invokestatic 50, 3) := by decide +kernel
theorem dL_law_242 : decode cL_law 242 = .ok (.iadd, 1) := by decide +kernel
theorem dL_law_243 : decode cL_law 243 = .ok (.istore 22, 2) := by decide +kernel
theorem dL_law_245 : decode cL_law 245 = .ok (.bipush 8, 2) := by decide +kernel
theorem dL_law_247 : decode cL_law 247 = .ok (.iload 11, 2) := by decide +kernel
theorem dL_law_249 : decode cL_law 249 = .ok (.iconst 4, 1) := by decide +kernel
theorem dL_law_250 : decode cL_law 250 = .ok (.iconst 5, 1) := by decide +kernel
theorem dL_law_251 : decode cL_law 251 = .ok (.iload 20, 2) := by decide +kernel
theorem dL_law_253 : decode cL_law 253 = .ok (.imul, 1) := by decide +kernel
theorem dL_law_254 : decode cL_law 254 = .ok (.iadd, 1) := by decide +kernel
theorem dL_law_255 : decode cL_law 255 = .ok (.ishr, 1) := by decide +kernel
theorem dL_law_256 : decode cL_law 256 = .ok (.bipush 53, 2) := by decide +kernel
theorem dL_law_258 : decode cL_law 258 = .ok (.invokestatic 50, 3) := by decide +kernel
theorem dL_law_261 : decode cL_law 261 = .ok (.iadd, 1) := by decide +kernel
theorem dL_law_262 : decode cL_law 262 = .ok (.istore 23, 2) := by decide +kernel
theorem dL_law_264 : decode cL_law 264 = .ok (.iload 19, 2) := by decide +kernel
theorem dL_law_266 : decode cL_law 266 = .ok (.ifCond .eq 29, 3) := by decide +kernel
theorem dL_law_269 : decode cL_law 269 = .ok (.aload_n 1, 1) := by decide +kernel
theorem dL_law_270 : decode cL_law 270 = .ok (.iload 21, 2) := by decide +kernel
theorem dL_law_272 : decode cL_law 272 = .ok (.iload 22, 2) := by decide +kernel
theorem dL_law_274 : decode cL_law 274 = .ok (.invokevirtual 57, 3) := by decide +kernel
theorem dL_law_277 : decode cL_law 277 = .ok (.ifCond .lt 18, 3) := by decide +kernel
theorem dL_law_280 : decode cL_law 280 = .ok (.aload_n 1, 1) := by decide +kernel
theorem dL_law_281 : decode cL_law 281 = .ok (.iload 21, 2) := by decide +kernel
theorem dL_law_283 : decode cL_law 283 = .ok (.iload 23, 2) := by decide +kernel
theorem dL_law_285 : decode cL_law 285 = .ok (.invokevirtual 57, 3) := by decide +kernel
theorem dL_law_288 : decode cL_law 288 = .ok (.ifCond .lt 7, 3) := by decide +kernel
theorem dL_law_291 : decode cL_law 291 = .ok (.iconst 1, 1) := by decide +kernel
theorem dL_law_292 : decode cL_law 292 = .ok (.goto 4, 3) := by decide +kernel
theorem dL_law_295 : decode cL_law 295 = .ok (.iconst 0, 1) := by decide +kernel
theorem dL_law_296 : decode cL_law 296 = .ok (.istore 19, 2) := by decide +kernel
theorem dL_law_298 : decode cL_law 298 = .ok (.aload_n 1, 1) := by decide +kernel
theorem dL_law_299 : decode cL_law 299 = .ok (.iload 21, 2) := by decide +kernel
theorem dL_law_301 : decode cL_law 301 = .ok (.iload 22, 2) := by decide +kernel
theorem dL_law_303 : decode cL_law 303 = .ok (.iload 23, 2) := by decide +kernel
theorem dL_law_305 : decode cL_law 305 = .ok (.invokevirtual 60, 3) := by decide +kernel
theorem dL_law_308 : decode cL_law 308 = .ok (.istore 16, 2) := by decide +kernel
theorem dL_law_310 : decode cL_law 310 = .ok (.iload 17, 2) := by decide +kernel
theorem dL_law_312 : decode cL_law 312 = .ok (.iload 23, 2) := by decide +kernel
theorem dL_law_314 : decode cL_law 314 = .ok (.imul, 1) := by decide +kernel
theorem dL_law_315 : decode cL_law 315 = .ok (.istore 17, 2) := by decide +kernel
theorem dL_law_317 : decode cL_law 317 = .ok (.iload 18, 2) := by decide +kernel
theorem dL_law_319 : decode cL_law 319 = .ok (.iload 22, 2) := by decide +kernel
theorem dL_law_321 : decode cL_law 321 = .ok (.imul, 1) := by decide +kernel
theorem dL_law_322 : decode cL_law 322 = .ok (.istore 18, 2) := by decide +kernel
theorem dL_law_324 : decode cL_law 324 = .ok (.iinc 20 1, 3) := by decide +kernel
theorem dL_law_327 : decode cL_law 327 = .ok (.goto (-123), 3) := by decide +kernel
theorem dL_law_330 : decode cL_law 330 = .ok (.iload 19, 2) := by decide +kernel
theorem dL_law_332 : decode cL_law 332 = .ok (.ifCond .eq 38, 3) := by decide +kernel
theorem dL_law_335 : decode cL_law 335 = .ok (.aload_n 2, 1) := by decide +kernel
theorem dL_law_336 : decode cL_law 336 = .ok (.iload 7, 2) := by decide +kernel
theorem dL_law_338 : decode cL_law 338 = .ok (.iload 17, 2) := by decide +kernel
theorem dL_law_340 : decode cL_law 340 = .ok (.iastore, 1) := by decide +kernel
theorem dL_law_341 : decode cL_law 341 = .ok (.aload_n 3, 1) := by decide +kernel
theorem dL_law_342 : decode cL_law 342 = .ok (.iload 7, 2) := by decide +kernel
theorem dL_law_344 : decode cL_law 344 = .ok (.iload 18, 2) := by decide +kernel
theorem dL_law_346 : decode cL_law 346 = .ok (.iastore, 1) := by decide +kernel
theorem dL_law_347 : decode cL_law 347 = .ok (.iinc 7 1, 3) := by decide +kernel
theorem dL_law_350 : decode cL_law 350 = .ok (.aload_n 1, 1) := by decide +kernel
theorem dL_law_351 : decode cL_law 351 = .ok (.iload 16, 2) := by decide +kernel
theorem dL_law_353 : decode cL_law 353 = .ok (.invokevirtual 63, 3) := by decide +kernel
theorem dL_law_356 : decode cL_law 356 = .ok (.iload 7, 2) := by decide +kernel
theorem dL_law_358 : decode cL_law 358 = .ok (.iconst 1, 1) := by decide +kernel
theorem dL_law_359 : decode cL_law 359 = .ok (.isub, 1) := by decide +kernel
theorem dL_law_360 : decode cL_law 360 = .ok (.if_icmp .ne 7, 3) := by decide +kernel
theorem dL_law_363 : decode cL_law 363 = .ok (.iconst 1, 1) := by decide +kernel
theorem dL_law_364 : decode cL_law 364 = .ok (.goto 4, 3) := by decide +kernel
theorem dL_law_367 : decode cL_law 367 = .ok (.iconst 0, 1) := by decide +kernel
theorem dL_law_368 : decode cL_law 368 = .ok (.istore 14, 2) := by decide +kernel
theorem dL_law_370 : decode cL_law 370 = .ok (.iload 14, 2) := by decide +kernel
theorem dL_law_372 : decode cL_law 372 = .ok (.ifCond .eq 25, 3) := by decide +kernel
theorem dL_law_375 : decode cL_law 375 = .ok (.aload_n 1, 1) := by decide +kernel
theorem dL_law_376 : decode cL_law 376 = .ok (.invokevirtual 66, 3) := by decide +kernel
theorem dL_law_379 : decode cL_law 379 = .ok (.iload 19, 2) := by decide +kernel
theorem dL_law_381 : decode cL_law 381 = .ok (.ifCond .eq 7, 3) := by decide +kernel
theorem dL_law_384 : decode cL_law 384 = .ok (.iconst 0, 1) := by decide +kernel
theorem dL_law_385 : decode cL_law 385 = .ok (.goto 5, 3) := by decide +kernel
theorem dL_law_388 : decode cL_law 388 = .ok (.iload 15, 2) := by decide +kernel
theorem dL_law_390 : decode cL_law 390 = .ok (.if_icmp .ne 7, 3) := by decide +kernel
theorem dL_law_393 : decode cL_law 393 = .ok (.iconst 1, 1) := by decide +kernel
theorem dL_law_394 : decode cL_law 394 = .ok (.goto 4, 3) := by decide +kernel
theorem dL_law_397 : decode cL_law 397 = .ok (.iconst 0, 1) := by decide +kernel
theorem dL_law_398 : decode cL_law 398 = .ok (.istore 14, 2) := by decide +kernel
theorem dL_law_400 : decode cL_law 400 = .ok (.goto 269, 3) := by decide +kernel
theorem dL_law_403 : decode cL_law 403 = .ok (.iload 13, 2) := by decide +kernel
theorem dL_law_405 : decode cL_law 405 = .ok (.bipush 6, 2) := by decide +kernel
theorem dL_law_407 : decode cL_law 407 = .ok (.if_icmp .ge 70, 3) := by decide +kernel
theorem dL_law_410 : decode cL_law 410 = .ok (.iload 7, 2) := by decide +kernel
theorem dL_law_412 : decode cL_law 412 = .ok (.ifCond .le 65, 3) := by decide +kernel
theorem dL_law_415 : decode cL_law 415 = .ok (.iload 8, 2) := by decide +kernel
theorem dL_law_417 : decode cL_law 417 = .ok (.bipush 12, 2) := by decide +kernel
theorem dL_law_419 : decode cL_law 419 = .ok (.if_icmp .ge 58, 3) := by decide +kernel
theorem dL_law_422 : decode cL_law 422 = .ok (.aload 4, 2) := by decide +kernel
theorem dL_law_424 : decode cL_law 424 = .ok (.iload 8, 2) := by decide +kernel
theorem dL_law_426 : decode cL_law 426 = .ok (.iload 12, 2) := by decide +kernel
theorem dL_law_428 : decode cL_law 428 = .ok (.iload 7, 2) := by decide +kernel
theorem dL_law_430 : decode cL_law 430 = .ok (.invokestatic 50, 3) := by decide +kernel
theorem dL_law_433 : decode cL_law 433 = .ok (.iastore, 1) := by decide +kernel
theorem dL_law_434 : decode cL_law 434 = .ok (.iinc 8 1, 3) := by decide +kernel
theorem dL_law_437 : decode cL_law 437 = .ok (.aload_n 1, 1) := by decide +kernel
theorem dL_law_438 : decode cL_law 438 = .ok (.aload 4, 2) := by decide +kernel
theorem dL_law_440 : decode cL_law 440 = .ok (.iload 8, 2) := by decide +kernel
theorem dL_law_442 : decode cL_law 442 = .ok (.iconst 1, 1) := by decide +kernel
theorem dL_law_443 : decode cL_law 443 = .ok (.isub, 1) := by decide +kernel
theorem dL_law_444 : decode cL_law 444 = .ok (.iaload, 1) := by decide +kernel
theorem dL_law_445 : decode cL_law 445 = .ok (.invokevirtual 69, 3) := by decide +kernel
theorem dL_law_448 : decode cL_law 448 = .ok (.iload 8, 2) := by decide +kernel
theorem dL_law_450 : decode cL_law 450 = .ok (.iconst 1, 1) := by decide +kernel
theorem dL_law_451 : decode cL_law 451 = .ok (.isub, 1) := by decide +kernel
theorem dL_law_452 : decode cL_law 452 = .ok (.if_icmp .ne 19, 3) := by decide +kernel
theorem dL_law_455 : decode cL_law 455 = .ok (.aload_n 1, 1) := by decide +kernel
theorem dL_law_456 : decode cL_law 456 = .ok (.iload 8, 2) := by decide +kernel
theorem dL_law_458 : decode cL_law 458 = .ok (.iconst 1, 1) := by decide +kernel
theorem dL_law_459 : decode cL_law 459 = .ok (.isub, 1) := by decide +kernel
theorem dL_law_460 : decode cL_law 460 = .ok (.invokevirtual 20, 3) := by decide +kernel
theorem dL_law_463 : decode cL_law 463 = .ok (.iconst (-1), 1) := by decide +kernel
theorem dL_law_464 : decode cL_law 464 = .ok (.if_icmp .ne 7, 3) := by decide +kernel
theorem dL_law_467 : decode cL_law 467 = .ok (.iconst 1, 1) := by decide +kernel
theorem dL_law_468 : decode cL_law 468 = .ok (.goto 4, 3) := by decide +kernel
theorem dL_law_471 : decode cL_law 471 = .ok (.iconst 0, 1) := by decide +kernel
theorem dL_law_472 : decode cL_law 472 = .ok (.istore 14, 2) := by decide +kernel
theorem dL_law_474 : decode cL_law 474 = .ok (.goto 195, 3) := by decide +kernel
theorem dL_law_477 : decode cL_law 477 = .ok (.iload 13, 2) := by decide +kernel
theorem dL_law_479 : decode cL_law 479 = .ok (.bipush 6, 2) := by decide +kernel
theorem dL_law_481 : decode cL_law 481 = .ok (.if_icmp .ne 145, 3) := by decide +kernel
theorem dL_law_484 : decode cL_law 484 = .ok (.iload 8, 2) := by decide +kernel
theorem dL_law_486 : decode cL_law 486 = .ok (.ifCond .le 140, 3) := by decide +kernel
theorem dL_law_489 : decode cL_law 489 = .ok (.iload 12, 2) := by decide +kernel
theorem dL_law_491 : decode cL_law 491 = .ok (.iload 8, 2) := by decide +kernel
theorem dL_law_493 : decode cL_law 493 = .ok (.invokestatic 50, 3) := by decide +kernel
theorem dL_law_496 : decode cL_law 496 = .ok (.istore 15, 2) := by decide +kernel
theorem dL_law_498 : decode cL_law 498 = .ok (.aload_n 1, 1) := by decide +kernel
theorem dL_law_499 : decode cL_law 499 = .ok (.aload 4, 2) := by decide +kernel
theorem dL_law_501 : decode cL_law 501 = .ok (.iload 15, 2) := by decide +kernel
theorem dL_law_503 : decode cL_law 503 = .ok (.iaload, 1) := by decide +kernel
theorem dL_law_504 : decode cL_law 504 = .ok (.invokevirtual 72, 3) := by decide +kernel
theorem dL_law_507 : decode cL_law 507 = .ok (.istore 16, 2) := by decide +kernel
theorem dL_law_509 : decode cL_law 509 = .ok (.aload_n 1, 1) := by decide +kernel
theorem dL_law_510 : decode cL_law 510 = .ok (.iload 15, 2) := by decide +kernel
theorem dL_law_512 : decode cL_law 512 = .ok (.iconst 0, 1) := by decide +kernel
theorem dL_law_513 : decode cL_law 513 = .ok (.invokevirtual 75, 3) := by decide +kernel
theorem dL_law_516 : decode cL_law 516 = .ok (.istore 17, 2) := by decide +kernel
theorem dL_law_518 : decode cL_law 518 = .ok (.iconst 1, 1) := by decide +kernel
theorem dL_law_519 : decode cL_law 519 = .ok (.iload 12, 2) := by decide +kernel
theorem dL_law_521 : decode cL_law 521 = .ok (.iconst 5, 1) := by decide +kernel
theorem dL_law_522 : decode cL_law 522 = .ok (.ishr, 1) := by decide +kernel
theorem dL_law_523 : decode cL_law 523 = .ok (.bipush 40, 2) := by decide +kernel
theorem dL_law_525 : decode cL_law 525 = .ok (.invokestatic 50, 3) := by decide +kernel
theorem dL_law_528 : decode cL_law 528 = .ok (.iadd, 1) := by decide +kernel
theorem dL_law_529 : decode cL_law 529 = .ok (.istore 18, 2) := by decide +kernel
theorem dL_law_531 : decode cL_law 531 = .ok (.aload_n 1, 1) := by decide +kernel
theorem dL_law_532 : decode cL_law 532 = .ok (.iload 15, 2) := by decide +kernel
theorem dL_law_534 : decode cL_law 534 = .ok (.invokevirtual 20, 3) := by decide +kernel
theorem dL_law_537 : decode cL_law 537 = .ok (.ifCond .lt 86, 3) := by decide +kernel
theorem dL_law_540 : decode cL_law 540 = .ok (.aload 5, 2) := by decide +kernel
theorem dL_law_542 : decode cL_law 542 = .ok (.iload 15, 2) := by decide +kernel
theorem dL_law_544 : decode cL_law 544 = .ok (.iaload, 1) := by decide +kernel
theorem dL_law_545 : decode cL_law 545 = .ok (.iload 18, 2) := by decide +kernel
theorem dL_law_547 : decode cL_law 547 = .ok (.iadd, 1) := by decide +kernel
theorem dL_law_548 : decode cL_law 548 = .ok (.bipush 80, 2) := by decide +kernel
theorem dL_law_550 : decode cL_law 550 = .ok (.if_icmp .gt 73, 3) := by decide +kernel
theorem dL_law_553 : decode cL_law 553 = .ok (.aload 5, 2) := by decide +kernel
theorem dL_law_555 : decode cL_law 555 = .ok (.iload 15, 2) := by decide +kernel
theorem dL_law_557 : decode cL_law 557 = .ok (.dup2, 1) := by decide +kernel
theorem dL_law_558 : decode cL_law 558 = .ok (.iaload, 1) := by decide +kernel
theorem dL_law_559 : decode cL_law 559 = .ok (.iload 18, 2) := by decide +kernel
theorem dL_law_561 : decode cL_law 561 = .ok (.iadd, 1) := by decide +kernel
theorem dL_law_562 : decode cL_law 562 = .ok (.iastore, 1) := by decide +kernel
theorem dL_law_563 : decode cL_law 563 = .ok (.aload_n 1, 1) := by decide +kernel
theorem dL_law_564 : decode cL_law 564 = .ok (.iload 15, 2) := by decide +kernel
theorem dL_law_566 : decode cL_law 566 = .ok (.iconst 1, 1) := by decide +kernel
theorem dL_law_567 : decode cL_law 567 = .ok (.iload 18, 2) := by decide +kernel
theorem dL_law_569 : decode cL_law 569 = .ok (.invokevirtual 78, 3) := by decide +kernel
theorem dL_law_572 : decode cL_law 572 = .ok (.ifCond .ne 48, 3) := by decide +kernel
theorem dL_law_575 : decode cL_law 575 = .ok (.aload_n 1, 1) := by decide +kernel
theorem dL_law_576 : decode cL_law 576 = .ok (.aload 4, 2) := by decide +kernel
theorem dL_law_578 : decode cL_law 578 = .ok (.iload 15, 2) := by decide +kernel
theorem dL_law_580 : decode cL_law 580 = .ok (.iaload, 1) := by decide +kernel
theorem dL_law_581 : decode cL_law 581 = .ok (.invokevirtual 72, 3) := by decide +kernel
theorem dL_law_584 : decode cL_law 584 = .ok (.iload 16, 2) := by decide +kernel
theorem dL_law_586 : decode cL_law 586 = .ok (.if_icmp .ne 34, 3) := by decide +kernel
theorem dL_law_589 : decode cL_law 589 = .ok (.aload_n 1, 1) := by decide +kernel
theorem dL_law_590 : decode cL_law 590 = .ok (.iload 15, 2) := by decide +kernel
theorem dL_law_592 : decode cL_law 592 = .ok (.iconst 0, 1) := by decide +kernel
theorem dL_law_593 : decode cL_law 593 = .ok (.invokevirtual 75, 3) := by decide +kernel
theorem dL_law_596 : decode cL_law 596 = .ok (.iload 17, 2) := by decide +kernel
theorem dL_law_598 : decode cL_law 598 = .ok (.if_icmp .lt 22, 3) := by decide +kernel
theorem dL_law_601 : decode cL_law 601 = .ok (.aload_n 1, 1) := by decide +kernel
theorem dL_law_602 : decode cL_law 602 = .ok (.iload 15, 2) := by decide +kernel
theorem dL_law_604 : decode cL_law 604 = .ok (.iconst 0, 1) := by decide +kernel
theorem dL_law_605 : decode cL_law 605 = .ok (.invokevirtual 75, 3) := by decide +kernel
theorem dL_law_608 : decode cL_law 608 = .ok (.aload 5, 2) := by decide +kernel
theorem dL_law_610 : decode cL_law 610 = .ok (.iload 15, 2) := by decide +kernel
theorem dL_law_612 : decode cL_law 612 = .ok (.iaload, 1) := by decide +kernel
theorem dL_law_613 : decode cL_law 613 = .ok (.if_icmp .gt 7, 3) := by decide +kernel
theorem dL_law_616 : decode cL_law 616 = .ok (.iconst 1, 1) := by decide +kernel
theorem dL_law_617 : decode cL_law 617 = .ok (.goto 4, 3) := by decide +kernel
theorem dL_law_620 : decode cL_law 620 = .ok (.iconst 0, 1) := by decide +kernel
theorem dL_law_621 : decode cL_law 621 = .ok (.istore 14, 2) := by decide +kernel
theorem dL_law_623 : decode cL_law 623 = .ok (.goto 46, 3) := by decide +kernel
theorem dL_law_626 : decode cL_law 626 = .ok (.iconst 1, 1) := by decide +kernel
theorem dL_law_627 : decode cL_law 627 = .ok (.iload 12, 2) := by decide +kernel
theorem dL_law_629 : decode cL_law 629 = .ok (.bipush 60, 2) := by decide +kernel
theorem dL_law_631 : decode cL_law 631 = .ok (.invokestatic 50, 3) := by decide +kernel
theorem dL_law_634 : decode cL_law 634 = .ok (.iadd, 1) := by decide +kernel
theorem dL_law_635 : decode cL_law 635 = .ok (.istore 15, 2) := by decide +kernel
theorem dL_law_637 : decode cL_law 637 = .ok (.iload 9, 2) := by decide +kernel
theorem dL_law_639 : decode cL_law 639 = .ok (.iload 15, 2) := by decide +kernel
theorem dL_law_641 : decode cL_law 641 = .ok (.iadd, 1) := by decide +kernel
theorem dL_law_642 : decode cL_law 642 = .ok (.istore 9, 2) := by decide +kernel
theorem dL_law_644 : decode cL_law 644 = .ok (.aload_n 1, 1) := by decide +kernel
theorem dL_law_645 : decode cL_law 645 = .ok (.iload 15, 2) := by decide +kernel
theorem dL_law_647 : decode cL_law 647 = .ok (.invokevirtual 82, 3) := by decide +kernel
theorem dL_law_650 : decode cL_law 650 = .ok (.ifCond .lt 16, 3) := by decide +kernel
theorem dL_law_653 : decode cL_law 653 = .ok (.aload_n 1, 1) := by decide +kernel
theorem dL_law_654 : decode cL_law 654 = .ok (.invokevirtual 23, 3) := by decide +kernel
theorem dL_law_657 : decode cL_law 657 = .ok (.iload 9, 2) := by decide +kernel
theorem dL_law_659 : decode cL_law 659 = .ok (.if_icmp .ne 7, 3) := by decide +kernel
theorem dL_law_662 : decode cL_law 662 = .ok (.iconst 1, 1) := by decide +kernel
theorem dL_law_663 : decode cL_law 663 = .ok (.goto 4, 3) := by decide +kernel
theorem dL_law_666 : decode cL_law 666 = .ok (.iconst 0, 1) := by decide +kernel
theorem dL_law_667 : decode cL_law 667 = .ok (.istore 14, 2) := by decide +kernel
theorem dL_law_669 : decode cL_law 669 = .ok (.iload 7, 2) := by decide +kernel
theorem dL_law_671 : decode cL_law 671 = .ok (.ifCond .ne 7, 3) := by decide +kernel
theorem dL_law_674 : decode cL_law 674 = .ok (.iconst 0, 1) := by decide +kernel
theorem dL_law_675 : decode cL_law 675 = .ok (.goto 12, 3) := by decide +kernel
theorem dL_law_678 : decode cL_law 678 = .ok (.iload 12, 2) := by decide +kernel
theorem dL_law_680 : decode cL_law 680 = .ok (.iconst 3, 1) := by decide +kernel
theorem dL_law_681 : decode cL_law 681 = .ok (.ishr, 1) := by decide +kernel
theorem dL_law_682 : decode cL_law 682 = .ok (.iload 7, 2) := by decide +kernel
theorem dL_law_684 : decode cL_law 684 = .ok (.invokestatic 50, 3) := by decide +kernel
theorem dL_law_687 : decode cL_law 687 = .ok (.istore 15, 2) := by decide +kernel
theorem dL_law_689 : decode cL_law 689 = .ok (.iload 14, 2) := by decide +kernel
theorem dL_law_691 : decode cL_law 691 = .ok (.ifCond .eq 43, 3) := by decide +kernel
theorem dL_law_694 : decode cL_law 694 = .ok (.aload_n 1, 1) := by decide +kernel
theorem dL_law_695 : decode cL_law 695 = .ok (.iload 8, 2) := by decide +kernel
theorem dL_law_697 : decode cL_law 697 = .ok (.iload 6, 2) := by decide +kernel
theorem dL_law_699 : decode cL_law 699 = .ok (.invokestatic 85, 3) := by decide +kernel
theorem dL_law_702 : decode cL_law 702 = .ok (.ifCond .eq 32, 3) := by decide +kernel
theorem dL_law_705 : decode cL_law 705 = .ok (.iload 7, 2) := by decide +kernel
theorem dL_law_707 : decode cL_law 707 = .ok (.ifCond .le 29, 3) := by decide +kernel
theorem dL_law_710 : decode cL_law 710 = .ok (.aload_n 1, 1) := by decide +kernel
theorem dL_law_711 : decode cL_law 711 = .ok (.iload 15, 2) := by decide +kernel
theorem dL_law_713 : decode cL_law 713 = .ok (.aload_n 2, 1) := by decide +kernel
theorem dL_law_714 : decode cL_law 714 = .ok (.iload 15, 2) := by decide +kernel
theorem dL_law_716 : decode cL_law 716 = .ok (.iaload, 1) := by decide +kernel
theorem dL_law_717 : decode cL_law 717 = .ok (.aload_n 3, 1) := by decide +kernel
theorem dL_law_718 : decode cL_law 718 = .ok (.iload 15, 2) := by decide +kernel
theorem dL_law_720 : decode cL_law 720 = .ok (.iaload, 1) := by decide +kernel
theorem dL_law_721 : decode cL_law 721 = .ok (.iload 11, 2) := by decide +kernel
theorem dL_law_723 : decode cL_law 723 = .ok (.ldc 89, 2) := by decide +kernel
theorem dL_law_725 : decode cL_law 725 = .ok (.invokestatic 50, 3) := by decide +kernel
theorem dL_law_728 : decode cL_law 728 = .ok (.invokestatic 90, 3) := by decide +kernel
theorem dL_law_731 : decode cL_law 731 = .ok (.ifCond .ne 5, 3) := by decide +kernel
theorem dL_law_734 : decode cL_law 734 = .ok (.iconst 0, 1) := by decide +kernel
theorem dL_law_735 : decode cL_law 735 = .ok (.ireturn, 1) := by decide +kernel
theorem dL_law_736 : decode cL_law 736 = .ok (.iinc 10 1, 3) := by decide +kernel
theorem dL_law_739 : decode cL_law 739 = .ok (.goto (-694), 3) := by decide +kernel
theorem dL_law_742 : decode cL_law 742 = .ok (.iconst 1, 1) := by decide +kernel
theorem dL_law_743 : decode cL_law 743 = .ok (.ireturn, 1) := by decide +kernel
