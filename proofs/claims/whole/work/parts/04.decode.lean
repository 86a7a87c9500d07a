theorem dX0_init_0 : decode cX0_init 0 = .ok (.aload_n 0, 1) := by decide +kernel
theorem dX0_init_1 : decode cX0_init 1 = .ok (.invokespecial 1, 3) := by decide +kernel
theorem dX0_init_4 : decode cX0_init 4 = .ok (.aload_n 0, 1) := by decide +kernel
theorem dX0_init_5 : decode cX0_init 5 = .ok (.iload_n 1, 1) := by decide +kernel
theorem dX0_init_6 : decode cX0_init 6 = .ok (.putfield 7, 3) := by decide +kernel
theorem dX0_init_9 : decode cX0_init 9 = .ok (.aload_n 0, 1) := by decide +kernel
theorem dX0_init_10 : decode cX0_init 10 = .ok (.iload_n 2, 1) := by decide +kernel
theorem dX0_init_11 : decode cX0_init 11 = .ok (.putfield 13, 3) := by decide +kernel
theorem dX0_init_14 : decode cX0_init 14 = .ok (.aload_n 0, 1) := by decide +kernel
theorem dX0_init_15 : decode cX0_init 15 = .ok (.iload_n 3, 1) := by decide +kernel
theorem dX0_init_16 : decode cX0_init 16 = .ok (.putfield 16, 3) := by decide +kernel
theorem dX0_init_19 : decode cX0_init 19 = .ok (.return_, 1) := by decide +kernel
theorem dX0_cuts_0 : decode cX0_cuts 0 = .ok (.aload_n 0, 1) := by decide +kernel
theorem dX0_cuts_1 : decode cX0_cuts 1 = .ok (.getfield 7, 3) := by decide +kernel
theorem dX0_cuts_4 : decode cX0_cuts 4 = .ok (.iload_n 1, 1) := by decide +kernel
theorem dX0_cuts_5 : decode cX0_cuts 5 = .ok (.if_icmp .ne 23, 3) := by decide +kernel
theorem dX0_cuts_8 : decode cX0_cuts 8 = .ok (.iload_n 2, 1) := by decide +kernel
theorem dX0_cuts_9 : decode cX0_cuts 9 = .ok (.aload_n 0, 1) := by decide +kernel
theorem dX0_cuts_10 : decode cX0_cuts 10 = .ok (.getfield 13, 3) := by decide +kernel
theorem dX0_cuts_13 : decode cX0_cuts 13 = .ok (.if_icmp .lt 15, 3) := by decide +kernel
theorem dX0_cuts_16 : decode cX0_cuts 16 = .ok (.iload_n 2, 1) := by decide +kernel
theorem dX0_cuts_17 : decode cX0_cuts 17 = .ok (.aload_n 0, 1) := by decide +kernel
theorem dX0_cuts_18 : decode cX0_cuts 18 = .ok (.getfield 16, 3) := by decide +kernel
theorem dX0_cuts_21 : decode cX0_cuts 21 = .ok (.if_icmp .gt 7, 3) := by decide +kernel
theorem dX0_cuts_24 : decode cX0_cuts 24 = .ok (.iconst 1, 1) := by decide +kernel
theorem dX0_cuts_25 : decode cX0_cuts 25 = .ok (.goto 4, 3) := by decide +kernel
theorem dX0_cuts_28 : decode cX0_cuts 28 = .ok (.iconst 0, 1) := by decide +kernel
theorem dX0_cuts_29 : decode cX0_cuts 29 = .ok (.ireturn, 1) := by decide +kernel
theorem dX1_init_0 : decode cX1_init 0 = .ok (.aload_n 0, 1) := by decide +kernel
theorem dX1_init_1 : decode cX1_init 1 = .ok (.invokespecial 1, 3) := by decide +kernel
theorem dX1_init_4 : decode cX1_init 4 = .ok (.aload_n 0, 1) := by decide +kernel
theorem dX1_init_5 : decode cX1_init 5 = .ok (.lconst 1, 1) := by decide +kernel
theorem dX1_init_6 : decode cX1_init 6 = .ok (.putfield 7, 3) := by decide +kernel
theorem dX1_init_9 : decode cX1_init 9 = .ok (.aload_n 0, 1) := by decide +kernel
theorem dX1_init_10 : decode cX1_init 10 = .ok (.lload_n 1, 1) := by decide +kernel
theorem dX1_init_11 : decode cX1_init 11 = .ok (.putfield 13, 3) := by decide +kernel
theorem dX1_init_14 : decode cX1_init 14 = .ok (.return_, 1) := by decide +kernel
theorem dX1_multiply_0 : decode cX1_multiply 0 = .ok (.aload_n 0, 1) := by decide +kernel
theorem dX1_multiply_1 : decode cX1_multiply 1 = .ok (.dup, 1) := by decide +kernel
theorem dX1_multiply_2 : decode cX1_multiply 2 = .ok (.getfield 13, 3) := by decide +kernel
theorem dX1_multiply_5 : decode cX1_multiply 5 = .ok (.lload_n 1, 1) := by decide +kernel
theorem dX1_multiply_6 : decode cX1_multiply 6 = .ok (.lmul, 1) := by decide +kernel
theorem dX1_multiply_7 : decode cX1_multiply 7 = .ok (.putfield 13, 3) := by decide +kernel
theorem dX1_multiply_10 : decode cX1_multiply 10 = .ok (.aload_n 0, 1) := by decide +kernel
theorem dX1_multiply_11 : decode cX1_multiply 11 = .ok (.dup, 1) := by decide +kernel
theorem dX1_multiply_12 : decode cX1_multiply 12 = .ok (.getfield 7, 3) := by decide +kernel
theorem dX1_multiply_15 : decode cX1_multiply 15 = .ok (.lload_n 3, 1) := by decide +kernel
theorem dX1_multiply_16 : decode cX1_multiply 16 = .ok (.lmul, 1) := by decide +kernel
theorem dX1_multiply_17 : decode cX1_multiply 17 = .ok (.putfield 7, 3) := by decide +kernel
theorem dX1_multiply_20 : decode cX1_multiply 20 = .ok (.aload_n 0, 1) := by decide +kernel
theorem dX1_multiply_21 : decode cX1_multiply 21 = .ok (.getfield 13, 3) := by decide +kernel
theorem dX1_multiply_24 : decode cX1_multiply 24 = .ok (.aload_n 0, 1) := by decide +kernel
theorem dX1_multiply_25 : decode cX1_multiply 25 = .ok (.getfield 7, 3) := by decide +kernel
theorem dX1_multiply_28 : decode cX1_multiply 28 = .ok (.invokestatic 16, 3) := by decide +kernel
theorem dX1_multiply_31 : decode cX1_multiply 31 = .ok (.lstore 5, 2) := by decide +kernel
theorem dX1_multiply_33 : decode cX1_multiply 33 = .ok (.lload 5, 2) := by decide +kernel
theorem dX1_multiply_35 : decode cX1_multiply 35 = .ok (.lconst 1, 1) := by decide +kernel
theorem dX1_multiply_36 : decode cX1_multiply 36 = .ok (.lcmp, 1) := by decide +kernel
theorem dX1_multiply_37 : decode cX1_multiply 37 = .ok (.ifCond .le 25, 3) := by decide +kernel
theorem dX1_multiply_40 : decode cX1_multiply 40 = .ok (.aload_n 0, 1) := by decide +kernel
theorem dX1_multiply_41 : decode cX1_multiply 41 = .ok (.dup, 1) := by decide +kernel
theorem dX1_multiply_42 : decode cX1_multiply 42 = .ok (.getfield 13, 3) := by decide +kernel
theorem dX1_multiply_45 : decode cX1_multiply 45 = .ok (.lload 5, 2) := by decide +kernel
theorem dX1_multiply_47 : decode cX1_multiply 47 = .ok (.ldiv, 1) := by decide +kernel
theorem dX1_multiply_48 : decode cX1_multiply 48 = .ok (.putfield 13, 3) := by decide +kernel
theorem dX1_multiply_51 : decode cX1_multiply 51 = .ok (.aload_n 0, 1) := by decide +kernel
theorem dX1_multiply_52 : decode cX1_multiply 52 = .ok (.dup, 1) := by decide +kernel
theorem dX1_multiply_53 : decode cX1_multiply 53 = .ok (.getfield 7, 3) := by decide +kernel
theorem dX1_multiply_56 : decode cX1_multiply 56 = .ok (.lload 5, 2) := by decide +kernel
theorem dX1_multiply_58 : decode cX1_multiply 58 = .ok (.ldiv, 1) := by decide +kernel
theorem dX1_multiply_59 : decode cX1_multiply 59 = .ok (.putfield 7, 3) := by decide +kernel
theorem dX1_multiply_62 : decode cX1_multiply 62 = .ok (.return_, 1) := by decide +kernel
theorem dX1_roundedDown_0 : decode cX1_roundedDown 0 = .ok (.aload_n 0, 1) := by decide +kernel
theorem dX1_roundedDown_1 : decode cX1_roundedDown 1 = .ok (.getfield 7, 3) := by decide +kernel
theorem dX1_roundedDown_4 : decode cX1_roundedDown 4 = .ok (.lconst 0, 1) := by decide +kernel
theorem dX1_roundedDown_5 : decode cX1_roundedDown 5 = .ok (.lcmp, 1) := by decide +kernel
theorem dX1_roundedDown_6 : decode cX1_roundedDown 6 = .ok (.ifCond .le 16, 3) := by decide +kernel
theorem dX1_roundedDown_9 : decode cX1_roundedDown 9 = .ok (.aload_n 0, 1) := by decide +kernel
theorem dX1_roundedDown_10 : decode cX1_roundedDown 10 = .ok (.getfield 13, 3) := by decide +kernel
theorem dX1_roundedDown_13 : decode cX1_roundedDown 13 = .ok (.aload_n 0, 1) := by decide +kernel
theorem dX1_roundedDown_14 : decode cX1_roundedDown 14 = .ok (.getfield 7, 3) := by decide +kernel
theorem dX1_roundedDown_17 : decode cX1_roundedDown 17 = .ok (.ldiv, 1) := by decide +kernel
theorem dX1_roundedDown_18 : decode cX1_roundedDown 18 = .ok (.l2i, 1) := by decide +kernel
theorem dX1_roundedDown_19 : decode cX1_roundedDown 19 = .ok (.goto 4, 3) := by decide +kernel
theorem dX1_roundedDown_22 : decode cX1_roundedDown 22 = .ok (.iconst 0, 1) := by decide +kernel
theorem dX1_roundedDown_23 : decode cX1_roundedDown 23 = .ok (.ireturn, 1) := by decide +kernel
theorem dX2_init_0 : decode cX2_init 0 = .ok (.aload_n 0, 1) := by decide +kernel
theorem dX2_init_1 : decode cX2_init 1 = .ok (.invokespecial 1, 3) := by decide +kernel
theorem dX2_init_4 : decode cX2_init 4 = .ok (.aload_n 0, 1) := by decide +kernel
theorem dX2_init_5 : decode cX2_init 5 = .ok (.aload_n 1, 1) := by decide +kernel
theorem dX2_init_6 : decode cX2_init 6 = .ok (.putfield 7, 3) := by decide +kernel
theorem dX2_init_9 : decode cX2_init 9 = .ok (.aload_n 0, 1) := by decide +kernel
theorem dX2_init_10 : decode cX2_init 10 = .ok (.iload_n 2, 1) := by decide +kernel
theorem dX2_init_11 : decode cX2_init 11 = .ok (.putfield 13, 3) := by decide +kernel
theorem dX2_init_14 : decode cX2_init 14 = .ok (.aload_n 0, 1) := by decide +kernel
theorem dX2_init_15 : decode cX2_init 15 = .ok (.iload_n 3, 1) := by decide +kernel
theorem dX2_init_16 : decode cX2_init 16 = .ok (.putfield 17, 3) := by decide +kernel
theorem dX2_init_19 : decode cX2_init 19 = .ok (.return_, 1) := by decide +kernel
theorem dX3_init_0 : decode cX3_init 0 = .ok (.aload_n 0, 1) := by decide +kernel
theorem dX3_init_1 : decode cX3_init 1 = .ok (.invokespecial 3, 3) := by decide +kernel
theorem dX3_init_4 : decode cX3_init 4 = .ok (.aload_n 0, 1) := by decide +kernel
theorem dX3_init_5 : decode cX3_init 5 = .ok (.iconst (-1), 1) := by decide +kernel
theorem dX3_init_6 : decode cX3_init 6 = .ok (.putfield 9, 3) := by decide +kernel
theorem dX3_init_9 : decode cX3_init 9 = .ok (.aload_n 0, 1) := by decide +kernel
theorem dX3_init_10 : decode cX3_init 10 = .ok (.aconst_null, 1) := by decide +kernel
theorem dX3_init_11 : decode cX3_init 11 = .ok (.putfield 15, 3) := by decide +kernel
theorem dX3_init_14 : decode cX3_init 14 = .ok (.aload_n 0, 1) := by decide +kernel
theorem dX3_init_15 : decode cX3_init 15 = .ok (.iconst 0, 1) := by decide +kernel
theorem dX3_init_16 : decode cX3_init 16 = .ok (.putfield 19, 3) := by decide +kernel
theorem dX3_init_19 : decode cX3_init 19 = .ok (.return_, 1) := by decide +kernel
theorem dX3_begin_0 : decode cX3_begin 0 = .ok (.aload_n 0, 1) := by decide +kernel
theorem dX3_begin_1 : decode cX3_begin 1 = .ok (.aload_n 1, 1) := by decide +kernel
theorem dX3_begin_2 : decode cX3_begin 2 = .ok (.putfield 15, 3) := by decide +kernel
theorem dX3_begin_5 : decode cX3_begin 5 = .ok (.aload_n 0, 1) := by decide +kernel
theorem dX3_begin_6 : decode cX3_begin 6 = .ok (.aload_n 1, 1) := by decide +kernel
theorem dX3_begin_7 : decode cX3_begin 7 = .ok (.getfield 22, 3) := by decide +kernel
theorem dX3_begin_10 : decode cX3_begin 10 = .ok (.putfield 9, 3) := by decide +kernel
theorem dX3_begin_13 : decode cX3_begin 13 = .ok (.aload_n 0, 1) := by decide +kernel
theorem dX3_begin_14 : decode cX3_begin 14 = .ok (.iload_n 2, 1) := by decide +kernel
theorem dX3_begin_15 : decode cX3_begin 15 = .ok (.aload_n 1, 1) := by decide +kernel
theorem dX3_begin_16 : decode cX3_begin 16 = .ok (.getfield 25, 3) := by decide +kernel
theorem dX3_begin_19 : decode cX3_begin 19 = .ok (.iadd, 1) := by decide +kernel
theorem dX3_begin_20 : decode cX3_begin 20 = .ok (.putfield 19, 3) := by decide +kernel
theorem dX3_begin_23 : decode cX3_begin 23 = .ok (.return_, 1) := by decide +kernel
theorem dX3_work_0 : decode cX3_work 0 = .ok (.aload_n 0, 1) := by decide +kernel
theorem dX3_work_1 : decode cX3_work 1 = .ok (.getfield 15, 3) := by decide +kernel
theorem dX3_work_4 : decode cX3_work 4 = .ok (.ifnonnull 5, 3) := by decide +kernel
theorem dX3_work_7 : decode cX3_work 7 = .ok (.aconst_null, 1) := by decide +kernel
theorem dX3_work_8 : decode cX3_work 8 = .ok (.areturn, 1) := by decide +kernel
theorem dX3_work_9 : decode cX3_work 9 = .ok (.aload_n 0, 1) := by decide +kernel
theorem dX3_work_10 : decode cX3_work 10 = .ok (.dup, 1) := by decide +kernel
theorem dX3_work_11 : decode cX3_work 11 = .ok (.getfield 19, 3) := by decide +kernel
theorem dX3_work_14 : decode cX3_work 14 = .ok (.iconst 1, 1) := by decide +kernel
theorem dX3_work_15 : decode cX3_work 15 = .ok (.isub, 1) := by decide +kernel
theorem dX3_work_16 : decode cX3_work 16 = .ok (.putfield 19, 3) := by decide +kernel
theorem dX3_work_19 : decode cX3_work 19 = .ok (.aload_n 0, 1) := by decide +kernel
theorem dX3_work_20 : decode cX3_work 20 = .ok (.getfield 19, 3) := by decide +kernel
theorem dX3_work_23 : decode cX3_work 23 = .ok (.ifCond .le 5, 3) := by decide +kernel
theorem dX3_work_26 : decode cX3_work 26 = .ok (.aconst_null, 1) := by decide +kernel
theorem dX3_work_27 : decode cX3_work 27 = .ok (.areturn, 1) := by decide +kernel
theorem dX3_work_28 : decode cX3_work 28 = .ok (.aload_n 0, 1) := by decide +kernel
theorem dX3_work_29 : decode cX3_work 29 = .ok (.getfield 15, 3) := by decide +kernel
theorem dX3_work_32 : decode cX3_work 32 = .ok (.getfield 28, 3) := by decide +kernel
theorem dX3_work_35 : decode cX3_work 35 = .ok (.astore_n 1, 1) := by decide +kernel
theorem dX3_work_36 : decode cX3_work 36 = .ok (.aload_n 0, 1) := by decide +kernel
theorem dX3_work_37 : decode cX3_work 37 = .ok (.aconst_null, 1) := by decide +kernel
theorem dX3_work_38 : decode cX3_work 38 = .ok (.putfield 15, 3) := by decide +kernel
theorem dX3_work_41 : decode cX3_work 41 = .ok (.aload_n 1, 1) := by decide +kernel
theorem dX3_work_42 : decode cX3_work 42 = .ok (.areturn, 1) := by decide +kernel
theorem dX4_init_0 : decode cX4_init 0 = .ok (.aload_n 0, 1) := by decide +kernel
theorem dX4_init_1 : decode cX4_init 1 = .ok (.invokespecial 1, 3) := by decide +kernel
theorem dX4_init_4 : decode cX4_init 4 = .ok (.aload_n 0, 1) := by decide +kernel
theorem dX4_init_5 : decode cX4_init 5 = .ok (.iconst 0, 1) := by decide +kernel
theorem dX4_init_6 : decode cX4_init 6 = .ok (.putfield 7, 3) := by decide +kernel
theorem dX4_init_9 : decode cX4_init 9 = .ok (.aload_n 0, 1) := by decide +kernel
theorem dX4_init_10 : decode cX4_init 10 = .ok (.aload_n 1, 1) := by decide +kernel
theorem dX4_init_11 : decode cX4_init 11 = .ok (.putfield 13, 3) := by decide +kernel
theorem dX4_init_14 : decode cX4_init 14 = .ok (.return_, 1) := by decide +kernel
theorem dX5_init_0 : decode cX5_init 0 = .ok (.aload_n 0, 1) := by decide +kernel
theorem dX5_init_1 : decode cX5_init 1 = .ok (.invokespecial 3, 3) := by decide +kernel
theorem dX5_init_4 : decode cX5_init 4 = .ok (.aload_n 0, 1) := by decide +kernel
theorem dX5_init_5 : decode cX5_init 5 = .ok (.new 9, 3) := by decide +kernel
theorem dX5_init_8 : decode cX5_init 8 = .ok (.dup, 1) := by decide +kernel
theorem dX5_init_9 : decode cX5_init 9 = .ok (.invokespecial 11, 3) := by decide +kernel
theorem dX5_init_12 : decode cX5_init 12 = .ok (.putfield 12, 3) := by decide +kernel
theorem dX5_init_15 : decode cX5_init 15 = .ok (.aload_n 0, 1) := by decide +kernel
theorem dX5_init_16 : decode cX5_init 16 = .ok (.iconst (-1), 1) := by decide +kernel
theorem dX5_init_17 : decode cX5_init 17 = .ok (.putfield 18, 3) := by decide +kernel
theorem dX5_init_20 : decode cX5_init 20 = .ok (.aload_n 0, 1) := by decide +kernel
theorem dX5_init_21 : decode cX5_init 21 = .ok (.iconst 0, 1) := by decide +kernel
theorem dX5_init_22 : decode cX5_init 22 = .ok (.putfield 22, 3) := by decide +kernel
theorem dX5_init_25 : decode cX5_init 25 = .ok (.aload_n 0, 1) := by decide +kernel
theorem dX5_init_26 : decode cX5_init 26 = .ok (.aload_n 1, 1) := by decide +kernel
theorem dX5_init_27 : decode cX5_init 27 = .ok (.putfield 26, 3) := by decide +kernel
theorem dX5_init_30 : decode cX5_init 30 = .ok (.iconst 0, 1) := by decide +kernel
theorem dX5_init_31 : decode cX5_init 31 = .ok (.istore_n 2, 1) := by decide +kernel
theorem dX5_init_32 : decode cX5_init 32 = .ok (.iload_n 2, 1) := by decide +kernel
theorem dX5_init_33 : decode cX5_init 33 = .ok (.aload_n 1, 1) := by decide +kernel
theorem dX5_init_34 : decode cX5_init 34 = .ok (.getfield 30, 3) := by decide +kernel
theorem dX5_init_37 : decode cX5_init 37 = .ok (.invokevirtual 35, 3) := by decide +kernel
theorem dX5_init_40 : decode cX5_init 40 = .ok (.if_icmp .ge 35, 3) := by decide +kernel
theorem dX5_init_43 : decode cX5_init 43 = .ok (.aload_n 0, 1) := by decide +kernel
theorem dX5_init_44 : decode cX5_init 44 = .ok (.getfield 12, 3) := by decide +kernel
theorem dX5_init_47 : decode cX5_init 47 = .ok (.new 39, 3) := by decide +kernel
theorem dX5_init_50 : decode cX5_init 50 = .ok (.dup, 1) := by decide +kernel
theorem dX5_init_51 : decode cX5_init 51 = .ok (.aload_n 1, 1) := by decide +kernel
theorem dX5_init_52 : decode cX5_init 52 = .ok (.getfield 30, 3) := by decide +kernel
theorem dX5_init_55 : decode cX5_init 55 = .ok (.iload_n 2, 1) := by decide +kernel
theorem dX5_init_56 : decode cX5_init 56 = .ok (.invokevirtual 41, 3) := by decide +kernel
theorem dX5_init_59 : decode cX5_init 59 = .ok (.checkcast 45, 3) := by decide +kernel
theorem dX5_init_62 : decode cX5_init 62 = .ok (.invokespecial 47, 3) := by decide +kernel
theorem dX5_init_65 : decode cX5_init 65 = .ok (.invokevirtual 50, 3) := by decide +kernel
theorem dX5_init_68 : decode cX5_init 68 = .ok (.pop, 1) := by decide +kernel
theorem dX5_init_69 : decode cX5_init 69 = .ok (.iinc 2 1, 3) := by decide +kernel
theorem dX5_init_72 : decode cX5_init 72 = .ok (.goto (-40), 3) := by decide +kernel
theorem dX5_init_75 : decode cX5_init 75 = .ok (.aload_n 0, 1) := by decide +kernel
theorem dX5_init_76 : decode cX5_init 76 = .ok (.iconst 2, 1) := by decide +kernel
theorem dX5_init_77 : decode cX5_init 77 = .ok (.aload_n 1, 1) := by decide +kernel
theorem dX5_init_78 : decode cX5_init 78 = .ok (.getfield 30, 3) := by decide +kernel
theorem dX5_init_81 : decode cX5_init 81 = .ok (.invokevirtual 35, 3) := by decide +kernel
theorem dX5_init_84 : decode cX5_init 84 = .ok (.imul, 1) := by decide +kernel
theorem dX5_init_85 : decode cX5_init 85 = .ok (.putfield 54, 3) := by decide +kernel
theorem dX5_init_88 : decode cX5_init 88 = .ok (.return_, 1) := by decide +kernel
theorem dX5_countCutGear_0 : decode cX5_countCutGear 0 = .ok (.aload_n 0, 1) := by decide +kernel
theorem dX5_countCutGear_1 : decode cX5_countCutGear 1 = .ok (.dup, 1) := by decide +kernel
theorem dX5_countCutGear_2 : decode cX5_countCutGear 2 = .ok (.getfield 54, 3) := by decide +kernel
theorem dX5_countCutGear_5 : decode cX5_countCutGear 5 = .ok (.iconst 1, 1) := by decide +kernel
theorem dX5_countCutGear_6 : decode cX5_countCutGear 6 = .ok (.isub, 1) := by decide +kernel
theorem dX5_countCutGear_7 : decode cX5_countCutGear 7 = .ok (.putfield 54, 3) := by decide +kernel
theorem dX5_countCutGear_10 : decode cX5_countCutGear 10 = .ok (.aload_n 0, 1) := by decide +kernel
theorem dX5_countCutGear_11 : decode cX5_countCutGear 11 = .ok (.getfield 54, 3) := by decide +kernel
theorem dX5_countCutGear_14 : decode cX5_countCutGear 14 = .ok (.ifCond .ne 8, 3) := by decide +kernel
theorem dX5_countCutGear_17 : decode cX5_countCutGear 17 = .ok (.aload_n 0, 1) := by decide +kernel
theorem dX5_countCutGear_18 : decode cX5_countCutGear 18 = .ok (.iload_n 1, 1) := by decide +kernel
theorem dX5_countCutGear_19 : decode cX5_countCutGear 19 = .ok (.putfield 18, 3) := by decide +kernel
theorem dX5_countCutGear_22 : decode cX5_countCutGear 22 = .ok (.return_, 1) := by decide +kernel
theorem dX5_wearDown_0 : decode cX5_wearDown 0 = .ok (.iconst 0, 1) := by decide +kernel
theorem dX5_wearDown_1 : decode cX5_wearDown 1 = .ok (.istore_n 2, 1) := by decide +kernel
theorem dX5_wearDown_2 : decode cX5_wearDown 2 = .ok (.iload_n 2, 1) := by decide +kernel
theorem dX5_wearDown_3 : decode cX5_wearDown 3 = .ok (.aload_n 0, 1) := by decide +kernel
theorem dX5_wearDown_4 : decode cX5_wearDown 4 = .ok (.getfield 12, 3) := by decide +kernel
theorem dX5_wearDown_7 : decode cX5_wearDown 7 = .ok (.invokevirtual 35, 3) := by decide +kernel
theorem dX5_wearDown_10 : decode cX5_wearDown 10 = .ok (.if_icmp .ge 57, 3) := by decide +kernel
theorem dX5_wearDown_13 : decode cX5_wearDown 13 = .ok (.aload_n 0, 1) := by decide +kernel
theorem dX5_wearDown_14 : decode cX5_wearDown 14 = .ok (.getfield 12, 3) := by decide +kernel
theorem dX5_wearDown_17 : decode cX5_wearDown 17 = .ok (.iload_n 2, 1) := by decide +kernel
theorem dX5_wearDown_18 : decode cX5_wearDown 18 = .ok (.invokevirtual 41, 3) := by decide +kernel
theorem dX5_wearDown_21 : decode cX5_wearDown 21 = .ok (.checkcast 39, 3) := by decide +kernel
theorem dX5_wearDown_24 : decode cX5_wearDown 24 = .ok (.astore_n 3, 1) := by decide +kernel
theorem dX5_wearDown_25 : decode cX5_wearDown 25 = .ok (.aload_n 3, 1) := by decide +kernel
theorem dX5_wearDown_26 : decode cX5_wearDown 26 = .ok (.dup, 1) := by decide +kernel
theorem dX5_wearDown_27 : decode cX5_wearDown 27 = .ok (.getfield 57, 3) := by decide +kernel
theorem dX5_wearDown_30 : decode cX5_wearDown 30 = .ok (.aload_n 3, 1) := by decide +kernel
theorem dX5_wearDown_31 : decode cX5_wearDown 31 = .ok (.getfield 60, 3) := by decide +kernel
theorem dX5_wearDown_34 : decode cX5_wearDown 34 = .ok (.iload_n 1, 1) := by decide +kernel
theorem dX5_wearDown_35 : decode cX5_wearDown 35 = .ok (.invokevirtual 64, 3) := by decide +kernel
theorem dX5_wearDown_38 : decode cX5_wearDown 38 = .ok (.iadd, 1) := by decide +kernel
theorem dX5_wearDown_39 : decode cX5_wearDown 39 = .ok (.putfield 57, 3) := by decide +kernel
theorem dX5_wearDown_42 : decode cX5_wearDown 42 = .ok (.aload_n 3, 1) := by decide +kernel
theorem dX5_wearDown_43 : decode cX5_wearDown 43 = .ok (.getfield 57, 3) := by decide +kernel
theorem dX5_wearDown_46 : decode cX5_wearDown 46 = .ok (.aload_n 3, 1) := by decide +kernel
theorem dX5_wearDown_47 : decode cX5_wearDown 47 = .ok (.getfield 60, 3) := by decide +kernel
theorem dX5_wearDown_50 : decode cX5_wearDown 50 = .ok (.invokevirtual 68, 3) := by decide +kernel
theorem dX5_wearDown_53 : decode cX5_wearDown 53 = .ok (.if_icmp .le 8, 3) := by decide +kernel
theorem dX5_wearDown_56 : decode cX5_wearDown 56 = .ok (.aload_n 0, 1) := by decide +kernel
theorem dX5_wearDown_57 : decode cX5_wearDown 57 = .ok (.iconst 1, 1) := by decide +kernel
theorem dX5_wearDown_58 : decode cX5_wearDown 58 = .ok (.putfield 22, 3) := by decide +kernel
theorem dX5_wearDown_61 : decode cX5_wearDown 61 = .ok (.iinc 2 1, 3) := by decide +kernel
theorem dX5_wearDown_64 : decode cX5_wearDown 64 = .ok (.goto (-62), 3) := by decide +kernel
theorem dX5_wearDown_67 : decode cX5_wearDown 67 = .ok (.return_, 1) := by decide +kernel
theorem dX6_init_0 : decode cX6_init 0 = .ok (.aload_n 0, 1) := by decide +kernel
theorem dX6_init_1 : decode cX6_init 1 = .ok (.invokespecial 3, 3) := by decide +kernel
theorem dX6_init_4 : decode cX6_init 4 = .ok (.aload_n 0, 1) := by decide +kernel
theorem dX6_init_5 : decode cX6_init 5 = .ok (.iload_n 1, 1) := by decide +kernel
theorem dX6_init_6 : decode cX6_init 6 = .ok (.putfield 9, 3) := by decide +kernel
theorem dX6_init_9 : decode cX6_init 9 = .ok (.aload_n 0, 1) := by decide +kernel
theorem dX6_init_10 : decode cX6_init 10 = .ok (.iload_n 2, 1) := by decide +kernel
theorem dX6_init_11 : decode cX6_init 11 = .ok (.putfield 15, 3) := by decide +kernel
theorem dX6_init_14 : decode cX6_init 14 = .ok (.aload_n 0, 1) := by decide +kernel
theorem dX6_init_15 : decode cX6_init 15 = .ok (.iload_n 3, 1) := by decide +kernel
theorem dX6_init_16 : decode cX6_init 16 = .ok (.putfield 18, 3) := by decide +kernel
theorem dX6_init_19 : decode cX6_init 19 = .ok (.return_, 1) := by decide +kernel
theorem dX6_wearOf_0 : decode cX6_wearOf 0 = .ok (.aload_n 0, 1) := by decide +kernel
theorem dX6_wearOf_1 : decode cX6_wearOf 1 = .ok (.getfield 9, 3) := by decide +kernel
theorem dX6_wearOf_4 : decode cX6_wearOf 4 = .ok (.ifCond .le 12, 3) := by decide +kernel
theorem dX6_wearOf_7 : decode cX6_wearOf 7 = .ok (.iload_n 1, 1) := by decide +kernel
theorem dX6_wearOf_8 : decode cX6_wearOf 8 = .ok (.aload_n 0, 1) := by decide +kernel
theorem dX6_wearOf_9 : decode cX6_wearOf 9 = .ok (.getfield 9, 3) := by decide +kernel
theorem dX6_wearOf_12 : decode cX6_wearOf 12 = .ok (.idiv, 1) := by decide +kernel
theorem dX6_wearOf_13 : decode cX6_wearOf 13 = .ok (.goto 4, 3) := by decide +kernel
theorem dX6_wearOf_16 : decode cX6_wearOf 16 = .ok (.iconst 0, 1) := by decide +kernel
theorem dX6_wearOf_17 : decode cX6_wearOf 17 = .ok (.ireturn, 1) := by decide +kernel
theorem dX6_mostWear_0 : decode cX6_mostWear 0 = .ok (.bipush 10, 2) := by decide +kernel
theorem dX6_mostWear_2 : decode cX6_mostWear 2 = .ok (.aload_n 0, 1) := by decide +kernel
theorem dX6_mostWear_3 : decode cX6_mostWear 3 = .ok (.getfield 15, 3) := by decide +kernel
theorem dX6_mostWear_6 : decode cX6_mostWear 6 = .ok (.aload_n 0, 1) := by decide +kernel
theorem dX6_mostWear_7 : decode cX6_mostWear 7 = .ok (.getfield 18, 3) := by decide +kernel
theorem dX6_mostWear_10 : decode cX6_mostWear 10 = .ok (.invokestatic 21, 3) := by decide +kernel
theorem dX6_mostWear_13 : decode cX6_mostWear 13 = .ok (.imul, 1) := by decide +kernel
theorem dX6_mostWear_14 : decode cX6_mostWear 14 = .ok (.ireturn, 1) := by decide +kernel
theorem dX7_init_0 : decode cX7_init 0 = .ok (.aload_n 0, 1) := by decide +kernel
theorem dX7_init_1 : decode cX7_init 1 = .ok (.invokespecial 1, 3) := by decide +kernel
theorem dX7_init_4 : decode cX7_init 4 = .ok (.aload_n 0, 1) := by decide +kernel
theorem dX7_init_5 : decode cX7_init 5 = .ok (.new 7, 3) := by decide +kernel
theorem dX7_init_8 : decode cX7_init 8 = .ok (.dup, 1) := by decide +kernel
theorem dX7_init_9 : decode cX7_init 9 = .ok (.invokespecial 9, 3) := by decide +kernel
theorem dX7_init_12 : decode cX7_init 12 = .ok (.putfield 10, 3) := by decide +kernel
theorem dX7_init_15 : decode cX7_init 15 = .ok (.aload_n 0, 1) := by decide +kernel
theorem dX7_init_16 : decode cX7_init 16 = .ok (.new 16, 3) := by decide +kernel
theorem dX7_init_19 : decode cX7_init 19 = .ok (.dup, 1) := by decide +kernel
theorem dX7_init_20 : decode cX7_init 20 = .ok (.lconst 1, 1) := by decide +kernel
theorem dX7_init_21 : decode cX7_init 21 = .ok (.invokespecial 18, 3) := by decide +kernel
theorem dX7_init_24 : decode cX7_init 24 = .ok (.putfield 21, 3) := by decide +kernel
theorem dX7_init_27 : decode cX7_init 27 = .ok (.aload_n 0, 1) := by decide +kernel
theorem dX7_init_28 : decode cX7_init 28 = .ok (.iconst 0, 1) := by decide +kernel
theorem dX7_init_29 : decode cX7_init 29 = .ok (.putfield 25, 3) := by decide +kernel
theorem dX7_init_32 : decode cX7_init 32 = .ok (.return_, 1) := by decide +kernel
theorem dX7_append_0 : decode cX7_append 0 = .ok (.aload_n 0, 1) := by decide +kernel
theorem dX7_append_1 : decode cX7_append 1 = .ok (.getfield 10, 3) := by decide +kernel
theorem dX7_append_4 : decode cX7_append 4 = .ok (.aload_n 1, 1) := by decide +kernel
theorem dX7_append_5 : decode cX7_append 5 = .ok (.invokevirtual 29, 3) := by decide +kernel
theorem dX7_append_8 : decode cX7_append 8 = .ok (.pop, 1) := by decide +kernel
theorem dX7_append_9 : decode cX7_append 9 = .ok (.aload_n 0, 1) := by decide +kernel
theorem dX7_append_10 : decode cX7_append 10 = .ok (.getfield 21, 3) := by decide +kernel
theorem dX7_append_13 : decode cX7_append 13 = .ok (.aload_n 1, 1) := by decide +kernel
theorem dX7_append_14 : decode cX7_append 14 = .ok (.getfield 33, 3) := by decide +kernel
theorem dX7_append_17 : decode cX7_append 17 = .ok (.i2l, 1) := by decide +kernel
theorem dX7_append_18 : decode cX7_append 18 = .ok (.aload_n 1, 1) := by decide +kernel
theorem dX7_append_19 : decode cX7_append 19 = .ok (.getfield 38, 3) := by decide +kernel
theorem dX7_append_22 : decode cX7_append 22 = .ok (.i2l, 1) := by decide +kernel
theorem dX7_append_23 : decode cX7_append 23 = .ok (.invokevirtual 41, 3) := by decide +kernel
theorem dX7_append_26 : decode cX7_append 26 = .ok (.return_, 1) := by decide +kernel
theorem dX7_distance_0 : decode cX7_distance 0 = .ok (.iconst 0, 1) := by decide +kernel
theorem dX7_distance_1 : decode cX7_distance 1 = .ok (.istore_n 1, 1) := by decide +kernel
theorem dX7_distance_2 : decode cX7_distance 2 = .ok (.iconst 0, 1) := by decide +kernel
theorem dX7_distance_3 : decode cX7_distance 3 = .ok (.istore_n 2, 1) := by decide +kernel
theorem dX7_distance_4 : decode cX7_distance 4 = .ok (.iload_n 2, 1) := by decide +kernel
theorem dX7_distance_5 : decode cX7_distance 5 = .ok (.aload_n 0, 1) := by decide +kernel
theorem dX7_distance_6 : decode cX7_distance 6 = .ok (.getfield 10, 3) := by decide +kernel
theorem dX7_distance_9 : decode cX7_distance 9 = .ok (.invokevirtual 45, 3) := by decide +kernel
theorem dX7_distance_12 : decode cX7_distance 12 = .ok (.if_icmp .ge 38, 3) := by decide +kernel
theorem dX7_distance_15 : decode cX7_distance 15 = .ok (.aload_n 0, 1) := by decide +kernel
theorem dX7_distance_16 : decode cX7_distance 16 = .ok (.getfield 10, 3) := by decide +kernel
theorem dX7_distance_19 : decode cX7_distance 19 = .ok (.iload_n 2, 1) := by decide +kernel
theorem dX7_distance_20 : decode cX7_distance 20 = .ok (.invokevirtual 49, 3) := by decide +kernel
theorem dX7_distance_23 : decode cX7_distance 23 = .ok (.checkcast 34, 3) := by decide +kernel
theorem dX7_distance_26 : decode cX7_distance 26 = .ok (.astore_n 3, 1) := by decide +kernel
theorem dX7_distance_27 : decode cX7_distance 27 = .ok (.iload_n 1, 1) := by decide +kernel
theorem dX7_distance_28 : decode cX7_distance 28 = .ok (.aload_n 3, 1) := by decide +kernel
theorem dX7_distance_29 : decode cX7_distance 29 = .ok (.getfield 53, 3) := by decide +kernel
theorem dX7_distance_32 : decode cX7_distance 32 = .ok (.aload_n 3, 1) := by decide +kernel
theorem dX7_distance_33 : decode cX7_distance 33 = .ok (.getfield 38, 3) := by decide +kernel
theorem dX7_distance_36 : decode cX7_distance 36 = .ok (.aload_n 3, 1) := by decide +kernel
theorem dX7_distance_37 : decode cX7_distance 37 = .ok (.getfield 33, 3) := by decide +kernel
theorem dX7_distance_40 : decode cX7_distance 40 = .ok (.iadd, 1) := by decide +kernel
theorem dX7_distance_41 : decode cX7_distance 41 = .ok (.imul, 1) := by decide +kernel
theorem dX7_distance_42 : decode cX7_distance 42 = .ok (.iadd, 1) := by decide +kernel
theorem dX7_distance_43 : decode cX7_distance 43 = .ok (.istore_n 1, 1) := by decide +kernel
theorem dX7_distance_44 : decode cX7_distance 44 = .ok (.iinc 2 1, 3) := by decide +kernel
theorem dX7_distance_47 : decode cX7_distance 47 = .ok (.goto (-43), 3) := by decide +kernel
theorem dX7_distance_50 : decode cX7_distance 50 = .ok (.iload_n 1, 1) := by decide +kernel
theorem dX7_distance_51 : decode cX7_distance 51 = .ok (.ireturn, 1) := by decide +kernel
theorem dX8_init_0 : decode cX8_init 0 = .ok (.aload_n 0, 1) := by decide +kernel
theorem dX8_init_1 : decode cX8_init 1 = .ok (.invokespecial 1, 3) := by decide +kernel
theorem dX8_init_4 : decode cX8_init 4 = .ok (.aload_n 0, 1) := by decide +kernel
theorem dX8_init_5 : decode cX8_init 5 = .ok (.new 7, 3) := by decide +kernel
theorem dX8_init_8 : decode cX8_init 8 = .ok (.dup, 1) := by decide +kernel
theorem dX8_init_9 : decode cX8_init 9 = .ok (.invokespecial 9, 3) := by decide +kernel
theorem dX8_init_12 : decode cX8_init 12 = .ok (.putfield 10, 3) := by decide +kernel
theorem dX8_init_15 : decode cX8_init 15 = .ok (.aload_n 0, 1) := by decide +kernel
theorem dX8_init_16 : decode cX8_init 16 = .ok (.new 7, 3) := by decide +kernel
theorem dX8_init_19 : decode cX8_init 19 = .ok (.dup, 1) := by decide +kernel
theorem dX8_init_20 : decode cX8_init 20 = .ok (.invokespecial 9, 3) := by decide +kernel
theorem dX8_init_23 : decode cX8_init 23 = .ok (.putfield 16, 3) := by decide +kernel
theorem dX8_init_26 : decode cX8_init 26 = .ok (.aload_n 0, 1) := by decide +kernel
theorem dX8_init_27 : decode cX8_init 27 = .ok (.new 7, 3) := by decide +kernel
theorem dX8_init_30 : decode cX8_init 30 = .ok (.dup, 1) := by decide +kernel
theorem dX8_init_31 : decode cX8_init 31 = .ok (.invokespecial 9, 3) := by decide +kernel
theorem dX8_init_34 : decode cX8_init 34 = .ok (.putfield 19, 3) := by decide +kernel
theorem dX8_init_37 : decode cX8_init 37 = .ok (.aload_n 0, 1) := by decide +kernel
theorem dX8_init_38 : decode cX8_init 38 = .ok (.new 7, 3) := by decide +kernel
theorem dX8_init_41 : decode cX8_init 41 = .ok (.dup, 1) := by decide +kernel
theorem dX8_init_42 : decode cX8_init 42 = .ok (.invokespecial 9, 3) := by decide +kernel
theorem dX8_init_45 : decode cX8_init 45 = .ok (.putfield 22, 3) := by decide +kernel
theorem dX8_init_48 : decode cX8_init 48 = .ok (.aload_n 0, 1) := by decide +kernel
theorem dX8_init_49 : decode cX8_init 49 = .ok (.new 7, 3) := by decide +kernel
theorem dX8_init_52 : decode cX8_init 52 = .ok (.dup, 1) := by decide +kernel
theorem dX8_init_53 : decode cX8_init 53 = .ok (.invokespecial 9, 3) := by decide +kernel
theorem dX8_init_56 : decode cX8_init 56 = .ok (.putfield 25, 3) := by decide +kernel
theorem dX8_init_59 : decode cX8_init 59 = .ok (.aload_n 0, 1) := by decide +kernel
theorem dX8_init_60 : decode cX8_init 60 = .ok (.new 28, 3) := by decide +kernel
theorem dX8_init_63 : decode cX8_init 63 = .ok (.dup, 1) := by decide +kernel
theorem dX8_init_64 : decode cX8_init 64 = .ok (.invokespecial 30, 3) := by decide +kernel
theorem dX8_init_67 : decode cX8_init 67 = .ok (.putfield 31, 3) := by decide +kernel
theorem dX8_init_70 : decode cX8_init 70 = .ok (.aload_n 0, 1) := by decide +kernel
theorem dX8_init_71 : decode cX8_init 71 = .ok (.iconst 0, 1) := by decide +kernel
theorem dX8_init_72 : decode cX8_init 72 = .ok (.putfield 35, 3) := by decide +kernel
theorem dX8_init_75 : decode cX8_init 75 = .ok (.iconst 0, 1) := by decide +kernel
theorem dX8_init_76 : decode cX8_init 76 = .ok (.istore_n 1, 1) := by decide +kernel
theorem dX8_init_77 : decode cX8_init 77 = .ok (.iload_n 1, 1) := by decide +kernel
theorem dX8_init_78 : decode cX8_init 78 = .ok (.iconst 3, 1) := by decide +kernel
theorem dX8_init_79 : decode cX8_init 79 = .ok (.if_icmp .ge 24, 3) := by decide +kernel
theorem dX8_init_82 : decode cX8_init 82 = .ok (.aload_n 0, 1) := by decide +kernel
theorem dX8_init_83 : decode cX8_init 83 = .ok (.getfield 22, 3) := by decide +kernel
theorem dX8_init_86 : decode cX8_init 86 = .ok (.new 39, 3) := by decide +kernel
theorem dX8_init_89 : decode cX8_init 89 = .ok (.dup, 1) := by decide +kernel
theorem dX8_init_90 : decode cX8_init 90 = .ok (.invokespecial 41, 3) := by decide +kernel
theorem dX8_init_93 : decode cX8_init 93 = .ok (.invokevirtual 42, 3) := by decide +kernel
theorem dX8_init_96 : decode cX8_init 96 = .ok (.pop, 1) := by decide +kernel
theorem dX8_init_97 : decode cX8_init 97 = .ok (.iinc 1 1, 3) := by decide +kernel
theorem dX8_init_100 : decode cX8_init 100 = .ok (.goto (-23), 3) := by decide +kernel
theorem dX8_init_103 : decode cX8_init 103 = .ok (.return_, 1) := by decide +kernel
theorem dX8_addCutter_0 : decode cX8_addCutter 0 = .ok (.iload_n 1, 1) := by decide +kernel
theorem dX8_addCutter_1 : decode cX8_addCutter 1 = .ok (.invokestatic 46, 3) := by decide +kernel
theorem dX8_addCutter_4 : decode cX8_addCutter 4 = .ok (.ifCond .ne 20, 3) := by decide +kernel
theorem dX8_addCutter_7 : decode cX8_addCutter 7 = .ok (.iload_n 2, 1) := by decide +kernel
theorem dX8_addCutter_8 : decode cX8_addCutter 8 = .ok (.invokestatic 50, 3) := by decide +kernel
theorem dX8_addCutter_11 : decode cX8_addCutter 11 = .ok (.ifCond .ne 13, 3) := by decide +kernel
theorem dX8_addCutter_14 : decode cX8_addCutter 14 = .ok (.iload_n 3, 1) := by decide +kernel
theorem dX8_addCutter_15 : decode cX8_addCutter 15 = .ok (.iload_n 2, 1) := by decide +kernel
theorem dX8_addCutter_16 : decode cX8_addCutter 16 = .ok (.bipush 60, 2) := by decide +kernel
theorem dX8_addCutter_18 : decode cX8_addCutter 18 = .ok (.invokestatic 53, 3) := by decide +kernel
theorem dX8_addCutter_21 : decode cX8_addCutter 21 = .ok (.ifCond .eq 13, 3) := by decide +kernel
theorem dX8_addCutter_24 : decode cX8_addCutter 24 = .ok (.new 57, 3) := by decide +kernel
theorem dX8_addCutter_27 : decode cX8_addCutter 27 = .ok (.dup, 1) := by decide +kernel
theorem dX8_addCutter_28 : decode cX8_addCutter 28 = .ok (.ldc 59, 2) := by decide +kernel
theorem dX8_addCutter_30 : decode cX8_addCutter 30 = .ok (.invokespecial 61, 3) := by decide +kernel
theorem dX8_addCutter_33 : decode cX8_addCutter 33 = .ok (.athrow, 1) := by decide +kernel
theorem dX8_addCutter_34 : decode cX8_addCutter 34 = .ok (.aload_n 0, 1) := by decide +kernel
theorem dX8_addCutter_35 : decode cX8_addCutter 35 = .ok (.getfield 10, 3) := by decide +kernel
theorem dX8_addCutter_38 : decode cX8_addCutter 38 = .ok (.invokevirtual 64, 3) := by decide +kernel
theorem dX8_addCutter_41 : decode cX8_addCutter 41 = .ok (.bipush 10, 2) := by decide +kernel
theorem dX8_addCutter_43 : decode cX8_addCutter 43 = .ok (.if_icmp .lt 13, 3) := by decide +kernel
theorem dX8_addCutter_46 : decode cX8_addCutter 46 = .ok (.new 68, 3) := by decide +kernel
theorem dX8_addCutter_49 : decode cX8_addCutter 49 = .ok (.dup, 1) := by decide +kernel
theorem dX8_addCutter_50 : decode cX8_addCutter 50 = .ok (.ldc 70, 2) := by decide +kernel
theorem dX8_addCutter_52 : decode cX8_addCutter 52 = .ok (.invokespecial 72, 3) := by decide +kernel
theorem dX8_addCutter_55 : decode cX8_addCutter 55 = .ok (.athrow, 1) := by decide +kernel
theorem dX8_addCutter_56 : decode cX8_addCutter 56 = .ok (.aload_n 0, 1) := by decide +kernel
theorem dX8_addCutter_57 : decode cX8_addCutter 57 = .ok (.getfield 10, 3) := by decide +kernel
theorem dX8_addCutter_60 : decode cX8_addCutter 60 = .ok (.new 73, 3) := by decide +kernel
theorem dX8_addCutter_63 : decode cX8_addCutter 63 = .ok (.dup, 1) := by decide +kernel
theorem dX8_addCutter_64 : decode cX8_addCutter 64 = .ok (.iload_n 1, 1) := by decide +kernel
theorem dX8_addCutter_65 : decode cX8_addCutter 65 = .ok (.iload_n 2, 1) := by decide +kernel
theorem dX8_addCutter_66 : decode cX8_addCutter 66 = .ok (.iload_n 3, 1) := by decide +kernel
theorem dX8_addCutter_67 : decode cX8_addCutter 67 = .ok (.invokespecial 75, 3) := by decide +kernel
theorem dX8_addCutter_70 : decode cX8_addCutter 70 = .ok (.invokevirtual 42, 3) := by decide +kernel
theorem dX8_addCutter_73 : decode cX8_addCutter 73 = .ok (.pop, 1) := by decide +kernel
theorem dX8_addCutter_74 : decode cX8_addCutter 74 = .ok (.aload_n 0, 1) := by decide +kernel
theorem dX8_addCutter_75 : decode cX8_addCutter 75 = .ok (.getfield 10, 3) := by decide +kernel
theorem dX8_addCutter_78 : decode cX8_addCutter 78 = .ok (.invokevirtual 64, 3) := by decide +kernel
theorem dX8_addCutter_81 : decode cX8_addCutter 81 = .ok (.iconst 1, 1) := by decide +kernel
theorem dX8_addCutter_82 : decode cX8_addCutter 82 = .ok (.isub, 1) := by decide +kernel
theorem dX8_addCutter_83 : decode cX8_addCutter 83 = .ok (.ireturn, 1) := by decide +kernel
theorem dX8_cutterFor_0 : decode cX8_cutterFor 0 = .ok (.iload_n 1, 1) := by decide +kernel
theorem dX8_cutterFor_1 : decode cX8_cutterFor 1 = .ok (.invokestatic 46, 3) := by decide +kernel
theorem dX8_cutterFor_4 : decode cX8_cutterFor 4 = .ok (.ifCond .ne 10, 3) := by decide +kernel
theorem dX8_cutterFor_7 : decode cX8_cutterFor 7 = .ok (.iload_n 2, 1) := by decide +kernel
theorem dX8_cutterFor_8 : decode cX8_cutterFor 8 = .ok (.invokestatic 50, 3) := by decide +kernel
theorem dX8_cutterFor_11 : decode cX8_cutterFor 11 = .ok (.ifCond .eq 13, 3) := by decide +kernel
theorem dX8_cutterFor_14 : decode cX8_cutterFor 14 = .ok (.new 57, 3) := by decide +kernel
theorem dX8_cutterFor_17 : decode cX8_cutterFor 17 = .ok (.dup, 1) := by decide +kernel
theorem dX8_cutterFor_18 : decode cX8_cutterFor 18 = .ok (.ldc 78, 2) := by decide +kernel
theorem dX8_cutterFor_20 : decode cX8_cutterFor 20 = .ok (.invokespecial 61, 3) := by decide +kernel
theorem dX8_cutterFor_23 : decode cX8_cutterFor 23 = .ok (.athrow, 1) := by decide +kernel
theorem dX8_cutterFor_24 : decode cX8_cutterFor 24 = .ok (.aload_n 0, 1) := by decide +kernel
theorem dX8_cutterFor_25 : decode cX8_cutterFor 25 = .ok (.iload_n 1, 1) := by decide +kernel
theorem dX8_cutterFor_26 : decode cX8_cutterFor 26 = .ok (.iload_n 2, 1) := by decide +kernel
theorem dX8_cutterFor_27 : decode cX8_cutterFor 27 = .ok (.invokevirtual 80, 3) := by decide +kernel
theorem dX8_cutterFor_30 : decode cX8_cutterFor 30 = .ok (.ireturn, 1) := by decide +kernel
theorem dX8_stage_0 : decode cX8_stage 0 = .ok (.iload_n 1, 1) := by decide +kernel
theorem dX8_stage_1 : decode cX8_stage 1 = .ok (.invokestatic 46, 3) := by decide +kernel
theorem dX8_stage_4 : decode cX8_stage 4 = .ok (.ifCond .ne 17, 3) := by decide +kernel
theorem dX8_stage_7 : decode cX8_stage 7 = .ok (.iload_n 2, 1) := by decide +kernel
theorem dX8_stage_8 : decode cX8_stage 8 = .ok (.invokestatic 50, 3) := by decide +kernel
theorem dX8_stage_11 : decode cX8_stage 11 = .ok (.ifCond .ne 10, 3) := by decide +kernel
theorem dX8_stage_14 : decode cX8_stage 14 = .ok (.iload_n 3, 1) := by decide +kernel
theorem dX8_stage_15 : decode cX8_stage 15 = .ok (.invokestatic 50, 3) := by decide +kernel
theorem dX8_stage_18 : decode cX8_stage 18 = .ok (.ifCond .eq 13, 3) := by decide +kernel
theorem dX8_stage_21 : decode cX8_stage 21 = .ok (.new 57, 3) := by decide +kernel
theorem dX8_stage_24 : decode cX8_stage 24 = .ok (.dup, 1) := by decide +kernel
theorem dX8_stage_25 : decode cX8_stage 25 = .ok (.ldc 84, 2) := by decide +kernel
theorem dX8_stage_27 : decode cX8_stage 27 = .ok (.invokespecial 61, 3) := by decide +kernel
theorem dX8_stage_30 : decode cX8_stage 30 = .ok (.athrow, 1) := by decide +kernel
theorem dX8_stage_31 : decode cX8_stage 31 = .ok (.aload_n 0, 1) := by decide +kernel
theorem dX8_stage_32 : decode cX8_stage 32 = .ok (.getfield 31, 3) := by decide +kernel
theorem dX8_stage_35 : decode cX8_stage 35 = .ok (.getfield 86, 3) := by decide +kernel
theorem dX8_stage_38 : decode cX8_stage 38 = .ok (.invokevirtual 64, 3) := by decide +kernel
theorem dX8_stage_41 : decode cX8_stage 41 = .ok (.iconst 4, 1) := by decide +kernel
theorem dX8_stage_42 : decode cX8_stage 42 = .ok (.if_icmp .lt 13, 3) := by decide +kernel
theorem dX8_stage_45 : decode cX8_stage 45 = .ok (.new 68, 3) := by decide +kernel
theorem dX8_stage_48 : decode cX8_stage 48 = .ok (.dup, 1) := by decide +kernel
theorem dX8_stage_49 : decode cX8_stage 49 = .ok (.ldc 89, 2) := by decide +kernel
theorem dX8_stage_51 : decode cX8_stage 51 = .ok (.invokespecial 72, 3) := by decide +kernel
theorem dX8_stage_54 : decode cX8_stage 54 = .ok (.athrow, 1) := by decide +kernel
theorem dX8_stage_55 : decode cX8_stage 55 = .ok (.aload_n 0, 1) := by decide +kernel
theorem dX8_stage_56 : decode cX8_stage 56 = .ok (.getfield 31, 3) := by decide +kernel
theorem dX8_stage_59 : decode cX8_stage 59 = .ok (.new 91, 3) := by decide +kernel
theorem dX8_stage_62 : decode cX8_stage 62 = .ok (.dup, 1) := by decide +kernel
theorem dX8_stage_63 : decode cX8_stage 63 = .ok (.iload_n 1, 1) := by decide +kernel
theorem dX8_stage_64 : decode cX8_stage 64 = .ok (.iload_n 2, 1) := by decide +kernel
theorem dX8_stage_65 : decode cX8_stage 65 = .ok (.iload_n 3, 1) := by decide +kernel
theorem dX8_stage_66 : decode cX8_stage 66 = .ok (.invokespecial 93, 3) := by decide +kernel
theorem dX8_stage_69 : decode cX8_stage 69 = .ok (.invokevirtual 94, 3) := by decide +kernel
theorem dX8_stage_72 : decode cX8_stage 72 = .ok (.aload_n 0, 1) := by decide +kernel
theorem dX8_stage_73 : decode cX8_stage 73 = .ok (.getfield 31, 3) := by decide +kernel
theorem dX8_stage_76 : decode cX8_stage 76 = .ok (.invokevirtual 98, 3) := by decide +kernel
theorem dX8_stage_79 : decode cX8_stage 79 = .ok (.ireturn, 1) := by decide +kernel
theorem dX8_scrap_0 : decode cX8_scrap 0 = .ok (.aload_n 0, 1) := by decide +kernel
theorem dX8_scrap_1 : decode cX8_scrap 1 = .ok (.getfield 31, 3) := by decide +kernel
theorem dX8_scrap_4 : decode cX8_scrap 4 = .ok (.getfield 86, 3) := by decide +kernel
theorem dX8_scrap_7 : decode cX8_scrap 7 = .ok (.invokevirtual 64, 3) := by decide +kernel
theorem dX8_scrap_10 : decode cX8_scrap 10 = .ok (.istore_n 1, 1) := by decide +kernel
theorem dX8_scrap_11 : decode cX8_scrap 11 = .ok (.aload_n 0, 1) := by decide +kernel
theorem dX8_scrap_12 : decode cX8_scrap 12 = .ok (.new 28, 3) := by decide +kernel
theorem dX8_scrap_15 : decode cX8_scrap 15 = .ok (.dup, 1) := by decide +kernel
theorem dX8_scrap_16 : decode cX8_scrap 16 = .ok (.invokespecial 30, 3) := by decide +kernel
theorem dX8_scrap_19 : decode cX8_scrap 19 = .ok (.putfield 31, 3) := by decide +kernel
theorem dX8_scrap_22 : decode cX8_scrap 22 = .ok (.iload_n 1, 1) := by decide +kernel
theorem dX8_scrap_23 : decode cX8_scrap 23 = .ok (.ireturn, 1) := by decide +kernel
theorem dX8_make_0 : decode cX8_make 0 = .ok (.aload_n 0, 1) := by decide +kernel
theorem dX8_make_1 : decode cX8_make 1 = .ok (.getfield 31, 3) := by decide +kernel
theorem dX8_make_4 : decode cX8_make 4 = .ok (.getfield 86, 3) := by decide +kernel
theorem dX8_make_7 : decode cX8_make 7 = .ok (.invokevirtual 101, 3) := by decide +kernel
theorem dX8_make_10 : decode cX8_make 10 = .ok (.ifCond .eq 13, 3) := by decide +kernel
theorem dX8_make_13 : decode cX8_make 13 = .ok (.new 68, 3) := by decide +kernel
theorem dX8_make_16 : decode cX8_make 16 = .ok (.dup, 1) := by decide +kernel
theorem dX8_make_17 : decode cX8_make 17 = .ok (.ldc 105, 2) := by decide +kernel
theorem dX8_make_19 : decode cX8_make 19 = .ok (.invokespecial 72, 3) := by decide +kernel
theorem dX8_make_22 : decode cX8_make 22 = .ok (.athrow, 1) := by decide +kernel
theorem dX8_make_23 : decode cX8_make 23 = .ok (.aload_n 0, 1) := by decide +kernel
theorem dX8_make_24 : decode cX8_make 24 = .ok (.getfield 31, 3) := by decide +kernel
theorem dX8_make_27 : decode cX8_make 27 = .ok (.invokevirtual 98, 3) := by decide +kernel
theorem dX8_make_30 : decode cX8_make 30 = .ok (.iload_n 1, 1) := by decide +kernel
theorem dX8_make_31 : decode cX8_make 31 = .ok (.if_icmp .eq 13, 3) := by decide +kernel
theorem dX8_make_34 : decode cX8_make 34 = .ok (.new 68, 3) := by decide +kernel
theorem dX8_make_37 : decode cX8_make 37 = .ok (.dup, 1) := by decide +kernel
theorem dX8_make_38 : decode cX8_make 38 = .ok (.ldc 107, 2) := by decide +kernel
theorem dX8_make_40 : decode cX8_make 40 = .ok (.invokespecial 72, 3) := by decide +kernel
theorem dX8_make_43 : decode cX8_make 43 = .ok (.athrow, 1) := by decide +kernel
theorem dX8_make_44 : decode cX8_make 44 = .ok (.aload_n 0, 1) := by decide +kernel
theorem dX8_make_45 : decode cX8_make 45 = .ok (.aload_n 0, 1) := by decide +kernel
theorem dX8_make_46 : decode cX8_make 46 = .ok (.getfield 31, 3) := by decide +kernel
theorem dX8_make_49 : decode cX8_make 49 = .ok (.invokevirtual 109, 3) := by decide +kernel
theorem dX8_make_52 : decode cX8_make 52 = .ok (.ifCond .ne 13, 3) := by decide +kernel
theorem dX8_make_55 : decode cX8_make 55 = .ok (.new 68, 3) := by decide +kernel
theorem dX8_make_58 : decode cX8_make 58 = .ok (.dup, 1) := by decide +kernel
theorem dX8_make_59 : decode cX8_make 59 = .ok (.ldc 113, 2) := by decide +kernel
theorem dX8_make_61 : decode cX8_make 61 = .ok (.invokespecial 72, 3) := by decide +kernel
theorem dX8_make_64 : decode cX8_make 64 = .ok (.athrow, 1) := by decide +kernel
theorem dX8_make_65 : decode cX8_make 65 = .ok (.aload_n 0, 1) := by decide +kernel
theorem dX8_make_66 : decode cX8_make 66 = .ok (.getfield 16, 3) := by decide +kernel
theorem dX8_make_69 : decode cX8_make 69 = .ok (.invokevirtual 64, 3) := by decide +kernel
theorem dX8_make_72 : decode cX8_make 72 = .ok (.bipush 8, 2) := by decide +kernel
theorem dX8_make_74 : decode cX8_make 74 = .ok (.if_icmp .lt 13, 3) := by decide +kernel
theorem dX8_make_77 : decode cX8_make 77 = .ok (.new 68, 3) := by decide +kernel
theorem dX8_make_80 : decode cX8_make 80 = .ok (.dup, 1) := by decide +kernel
theorem dX8_make_81 : decode cX8_make 81 = .ok (.ldc 115, 2) := by decide +kernel
theorem dX8_make_83 : decode cX8_make 83 = .ok (.invokespecial 72, 3) := by decide +kernel
theorem dX8_make_86 : decode cX8_make 86 = .ok (.athrow, 1) := by decide +kernel
theorem dX8_make_87 : decode cX8_make 87 = .ok (.aload_n 0, 1) := by decide +kernel
theorem dX8_make_88 : decode cX8_make 88 = .ok (.getfield 16, 3) := by decide +kernel
theorem dX8_make_91 : decode cX8_make 91 = .ok (.aload_n 0, 1) := by decide +kernel
theorem dX8_make_92 : decode cX8_make 92 = .ok (.getfield 31, 3) := by decide +kernel
theorem dX8_make_95 : decode cX8_make 95 = .ok (.invokevirtual 42, 3) := by decide +kernel
theorem dX8_make_98 : decode cX8_make 98 = .ok (.pop, 1) := by decide +kernel
theorem dX8_make_99 : decode cX8_make 99 = .ok (.aload_n 0, 1) := by decide +kernel
theorem dX8_make_100 : decode cX8_make 100 = .ok (.new 28, 3) := by decide +kernel
theorem dX8_make_103 : decode cX8_make 103 = .ok (.dup, 1) := by decide +kernel
theorem dX8_make_104 : decode cX8_make 104 = .ok (.invokespecial 30, 3) := by decide +kernel
theorem dX8_make_107 : decode cX8_make 107 = .ok (.putfield 31, 3) := by decide +kernel
theorem dX8_make_110 : decode cX8_make 110 = .ok (.aload_n 0, 1) := by decide +kernel
theorem dX8_make_111 : decode cX8_make 111 = .ok (.getfield 16, 3) := by decide +kernel
theorem dX8_make_114 : decode cX8_make 114 = .ok (.invokevirtual 64, 3) := by decide +kernel
theorem dX8_make_117 : decode cX8_make 117 = .ok (.iconst 1, 1) := by decide +kernel
theorem dX8_make_118 : decode cX8_make 118 = .ok (.isub, 1) := by decide +kernel
theorem dX8_make_119 : decode cX8_make 119 = .ok (.ireturn, 1) := by decide +kernel
theorem dX8_numerator_0 : decode cX8_numerator 0 = .ok (.aload_n 0, 1) := by decide +kernel
theorem dX8_numerator_1 : decode cX8_numerator 1 = .ok (.iload_n 1, 1) := by decide +kernel
theorem dX8_numerator_2 : decode cX8_numerator 2 = .ok (.invokevirtual 117, 3) := by decide +kernel
theorem dX8_numerator_5 : decode cX8_numerator 5 = .ok (.getfield 121, 3) := by decide +kernel
theorem dX8_numerator_8 : decode cX8_numerator 8 = .ok (.getfield 125, 3) := by decide +kernel
theorem dX8_numerator_11 : decode cX8_numerator 11 = .ok (.l2i, 1) := by decide +kernel
theorem dX8_numerator_12 : decode cX8_numerator 12 = .ok (.ireturn, 1) := by decide +kernel
theorem dX8_denominator_0 : decode cX8_denominator 0 = .ok (.aload_n 0, 1) := by decide +kernel
theorem dX8_denominator_1 : decode cX8_denominator 1 = .ok (.iload_n 1, 1) := by decide +kernel
theorem dX8_denominator_2 : decode cX8_denominator 2 = .ok (.invokevirtual 117, 3) := by decide +kernel
theorem dX8_denominator_5 : decode cX8_denominator 5 = .ok (.getfield 121, 3) := by decide +kernel
theorem dX8_denominator_8 : decode cX8_denominator 8 = .ok (.getfield 131, 3) := by decide +kernel
theorem dX8_denominator_11 : decode cX8_denominator 11 = .ok (.l2i, 1) := by decide +kernel
theorem dX8_denominator_12 : decode cX8_denominator 12 = .ok (.ireturn, 1) := by decide +kernel
theorem dX8_turned_0 : decode cX8_turned 0 = .ok (.aload_n 0, 1) := by decide +kernel
theorem dX8_turned_1 : decode cX8_turned 1 = .ok (.iload_n 1, 1) := by decide +kernel
theorem dX8_turned_2 : decode cX8_turned 2 = .ok (.invokevirtual 117, 3) := by decide +kernel
theorem dX8_turned_5 : decode cX8_turned 5 = .ok (.getfield 121, 3) := by decide +kernel
theorem dX8_turned_8 : decode cX8_turned 8 = .ok (.astore_n 3, 1) := by decide +kernel
theorem dX8_turned_9 : decode cX8_turned 9 = .ok (.iload_n 2, 1) := by decide +kernel
theorem dX8_turned_10 : decode cX8_turned 10 = .ok (.invokestatic 134, 3) := by decide +kernel
theorem dX8_turned_13 : decode cX8_turned 13 = .ok (.new 126, 3) := by decide +kernel
theorem dX8_turned_16 : decode cX8_turned 16 = .ok (.dup, 1) := by decide +kernel
theorem dX8_turned_17 : decode cX8_turned 17 = .ok (.iload_n 2, 1) := by decide +kernel
theorem dX8_turned_18 : decode cX8_turned 18 = .ok (.i2l, 1) := by decide +kernel
theorem dX8_turned_19 : decode cX8_turned 19 = .ok (.invokespecial 138, 3) := by decide +kernel
theorem dX8_turned_22 : decode cX8_turned 22 = .ok (.astore 4, 2) := by decide +kernel
theorem dX8_turned_24 : decode cX8_turned 24 = .ok (.aload 4, 2) := by decide +kernel
theorem dX8_turned_26 : decode cX8_turned 26 = .ok (.aload_n 3, 1) := by decide +kernel
theorem dX8_turned_27 : decode cX8_turned 27 = .ok (.getfield 131, 3) := by decide +kernel
theorem dX8_turned_30 : decode cX8_turned 30 = .ok (.aload_n 3, 1) := by decide +kernel
theorem dX8_turned_31 : decode cX8_turned 31 = .ok (.getfield 125, 3) := by decide +kernel
theorem dX8_turned_34 : decode cX8_turned 34 = .ok (.invokevirtual 141, 3) := by decide +kernel
theorem dX8_turned_37 : decode cX8_turned 37 = .ok (.aload 4, 2) := by decide +kernel
theorem dX8_turned_39 : decode cX8_turned 39 = .ok (.invokevirtual 145, 3) := by decide +kernel
theorem dX8_turned_42 : decode cX8_turned 42 = .ok (.ireturn, 1) := by decide +kernel
theorem dX8_turnedByWalk_0 : decode cX8_turnedByWalk 0 = .ok (.aload_n 0, 1) := by decide +kernel
theorem dX8_turnedByWalk_1 : decode cX8_turnedByWalk 1 = .ok (.iload_n 1, 1) := by decide +kernel
theorem dX8_turnedByWalk_2 : decode cX8_turnedByWalk 2 = .ok (.invokevirtual 117, 3) := by decide +kernel
theorem dX8_turnedByWalk_5 : decode cX8_turnedByWalk 5 = .ok (.getfield 86, 3) := by decide +kernel
theorem dX8_turnedByWalk_8 : decode cX8_turnedByWalk 8 = .ok (.astore_n 3, 1) := by decide +kernel
theorem dX8_turnedByWalk_9 : decode cX8_turnedByWalk 9 = .ok (.iload_n 2, 1) := by decide +kernel
theorem dX8_turnedByWalk_10 : decode cX8_turnedByWalk 10 = .ok (.invokestatic 134, 3) := by decide +kernel
theorem dX8_turnedByWalk_13 : decode cX8_turnedByWalk 13 = .ok (.new 126, 3) := by decide +kernel
theorem dX8_turnedByWalk_16 : decode cX8_turnedByWalk 16 = .ok (.dup, 1) := by decide +kernel
theorem dX8_turnedByWalk_17 : decode cX8_turnedByWalk 17 = .ok (.iload_n 2, 1) := by decide +kernel
theorem dX8_turnedByWalk_18 : decode cX8_turnedByWalk 18 = .ok (.i2l, 1) := by decide +kernel
theorem dX8_turnedByWalk_19 : decode cX8_turnedByWalk 19 = .ok (.invokespecial 138, 3) := by decide +kernel
theorem dX8_turnedByWalk_22 : decode cX8_turnedByWalk 22 = .ok (.astore 4, 2) := by decide +kernel
theorem dX8_turnedByWalk_24 : decode cX8_turnedByWalk 24 = .ok (.iconst 0, 1) := by decide +kernel
theorem dX8_turnedByWalk_25 : decode cX8_turnedByWalk 25 = .ok (.istore 5, 2) := by decide +kernel
theorem dX8_turnedByWalk_27 : decode cX8_turnedByWalk 27 = .ok (.iload 5, 2) := by decide +kernel
theorem dX8_turnedByWalk_29 : decode cX8_turnedByWalk 29 = .ok (.aload_n 3, 1) := by decide +kernel
theorem dX8_turnedByWalk_30 : decode cX8_turnedByWalk 30 = .ok (.invokevirtual 64, 3) := by decide +kernel
theorem dX8_turnedByWalk_33 : decode cX8_turnedByWalk 33 = .ok (.if_icmp .ge 40, 3) := by decide +kernel
theorem dX8_turnedByWalk_36 : decode cX8_turnedByWalk 36 = .ok (.aload 4, 2) := by decide +kernel
theorem dX8_turnedByWalk_38 : decode cX8_turnedByWalk 38 = .ok (.aload_n 3, 1) := by decide +kernel
theorem dX8_turnedByWalk_39 : decode cX8_turnedByWalk 39 = .ok (.iload 5, 2) := by decide +kernel
theorem dX8_turnedByWalk_41 : decode cX8_turnedByWalk 41 = .ok (.invokevirtual 148, 3) := by decide +kernel
theorem dX8_turnedByWalk_44 : decode cX8_turnedByWalk 44 = .ok (.checkcast 91, 3) := by decide +kernel
theorem dX8_turnedByWalk_47 : decode cX8_turnedByWalk 47 = .ok (.getfield 152, 3) := by decide +kernel
theorem dX8_turnedByWalk_50 : decode cX8_turnedByWalk 50 = .ok (.i2l, 1) := by decide +kernel
theorem dX8_turnedByWalk_51 : decode cX8_turnedByWalk 51 = .ok (.aload_n 3, 1) := by decide +kernel
theorem dX8_turnedByWalk_52 : decode cX8_turnedByWalk 52 = .ok (.iload 5, 2) := by decide +kernel
theorem dX8_turnedByWalk_54 : decode cX8_turnedByWalk 54 = .ok (.invokevirtual 148, 3) := by decide +kernel
theorem dX8_turnedByWalk_57 : decode cX8_turnedByWalk 57 = .ok (.checkcast 91, 3) := by decide +kernel
theorem dX8_turnedByWalk_60 : decode cX8_turnedByWalk 60 = .ok (.getfield 155, 3) := by decide +kernel
theorem dX8_turnedByWalk_63 : decode cX8_turnedByWalk 63 = .ok (.i2l, 1) := by decide +kernel
theorem dX8_turnedByWalk_64 : decode cX8_turnedByWalk 64 = .ok (.invokevirtual 141, 3) := by decide +kernel
theorem dX8_turnedByWalk_67 : decode cX8_turnedByWalk 67 = .ok (.iinc 5 1, 3) := by decide +kernel
theorem dX8_turnedByWalk_70 : decode cX8_turnedByWalk 70 = .ok (.goto (-43), 3) := by decide +kernel
theorem dX8_turnedByWalk_73 : decode cX8_turnedByWalk 73 = .ok (.aload 4, 2) := by decide +kernel
theorem dX8_turnedByWalk_75 : decode cX8_turnedByWalk 75 = .ok (.invokevirtual 145, 3) := by decide +kernel
theorem dX8_turnedByWalk_78 : decode cX8_turnedByWalk 78 = .ok (.ireturn, 1) := by decide +kernel
theorem dX8_order_0 : decode cX8_order 0 = .ok (.aload_n 0, 1) := by decide +kernel
theorem dX8_order_1 : decode cX8_order 1 = .ok (.iload_n 1, 1) := by decide +kernel
theorem dX8_order_2 : decode cX8_order 2 = .ok (.invokevirtual 117, 3) := by decide +kernel
theorem dX8_order_5 : decode cX8_order 5 = .ok (.astore_n 2, 1) := by decide +kernel
theorem dX8_order_6 : decode cX8_order 6 = .ok (.aload_n 0, 1) := by decide +kernel
theorem dX8_order_7 : decode cX8_order 7 = .ok (.getfield 19, 3) := by decide +kernel
theorem dX8_order_10 : decode cX8_order 10 = .ok (.invokevirtual 64, 3) := by decide +kernel
theorem dX8_order_13 : decode cX8_order 13 = .ok (.bipush 12, 2) := by decide +kernel
theorem dX8_order_15 : decode cX8_order 15 = .ok (.if_icmp .lt 13, 3) := by decide +kernel
theorem dX8_order_18 : decode cX8_order 18 = .ok (.new 68, 3) := by decide +kernel
theorem dX8_order_21 : decode cX8_order 21 = .ok (.dup, 1) := by decide +kernel
theorem dX8_order_22 : decode cX8_order 22 = .ok (.ldc 158, 2) := by decide +kernel
theorem dX8_order_24 : decode cX8_order 24 = .ok (.invokespecial 72, 3) := by decide +kernel
theorem dX8_order_27 : decode cX8_order 27 = .ok (.athrow, 1) := by decide +kernel
theorem dX8_order_28 : decode cX8_order 28 = .ok (.new 160, 3) := by decide +kernel
theorem dX8_order_31 : decode cX8_order 31 = .ok (.dup, 1) := by decide +kernel
theorem dX8_order_32 : decode cX8_order 32 = .ok (.aload_n 2, 1) := by decide +kernel
theorem dX8_order_33 : decode cX8_order 33 = .ok (.invokespecial 162, 3) := by decide +kernel
theorem dX8_order_36 : decode cX8_order 36 = .ok (.astore_n 3, 1) := by decide +kernel
theorem dX8_order_37 : decode cX8_order 37 = .ok (.aload_n 0, 1) := by decide +kernel
theorem dX8_order_38 : decode cX8_order 38 = .ok (.getfield 19, 3) := by decide +kernel
theorem dX8_order_41 : decode cX8_order 41 = .ok (.aload_n 3, 1) := by decide +kernel
theorem dX8_order_42 : decode cX8_order 42 = .ok (.invokevirtual 42, 3) := by decide +kernel
theorem dX8_order_45 : decode cX8_order 45 = .ok (.pop, 1) := by decide +kernel
theorem dX8_order_46 : decode cX8_order 46 = .ok (.iconst 0, 1) := by decide +kernel
theorem dX8_order_47 : decode cX8_order 47 = .ok (.istore 4, 2) := by decide +kernel
theorem dX8_order_49 : decode cX8_order 49 = .ok (.iload 4, 2) := by decide +kernel
theorem dX8_order_51 : decode cX8_order 51 = .ok (.aload_n 2, 1) := by decide +kernel
theorem dX8_order_52 : decode cX8_order 52 = .ok (.getfield 86, 3) := by decide +kernel
theorem dX8_order_55 : decode cX8_order 55 = .ok (.invokevirtual 64, 3) := by decide +kernel
theorem dX8_order_58 : decode cX8_order 58 = .ok (.if_icmp .ge 53, 3) := by decide +kernel
theorem dX8_order_61 : decode cX8_order 61 = .ok (.aload_n 2, 1) := by decide +kernel
theorem dX8_order_62 : decode cX8_order 62 = .ok (.getfield 86, 3) := by decide +kernel
theorem dX8_order_65 : decode cX8_order 65 = .ok (.iload 4, 2) := by decide +kernel
theorem dX8_order_67 : decode cX8_order 67 = .ok (.invokevirtual 148, 3) := by decide +kernel
theorem dX8_order_70 : decode cX8_order 70 = .ok (.checkcast 91, 3) := by decide +kernel
theorem dX8_order_73 : decode cX8_order 73 = .ok (.astore 5, 2) := by decide +kernel
theorem dX8_order_75 : decode cX8_order 75 = .ok (.aload_n 0, 1) := by decide +kernel
theorem dX8_order_76 : decode cX8_order 76 = .ok (.aload_n 3, 1) := by decide +kernel
theorem dX8_order_77 : decode cX8_order 77 = .ok (.aload 5, 2) := by decide +kernel
theorem dX8_order_79 : decode cX8_order 79 = .ok (.getfield 165, 3) := by decide +kernel
theorem dX8_order_82 : decode cX8_order 82 = .ok (.aload 5, 2) := by decide +kernel
theorem dX8_order_84 : decode cX8_order 84 = .ok (.getfield 152, 3) := by decide +kernel
theorem dX8_order_87 : decode cX8_order 87 = .ok (.invokevirtual 168, 3) := by decide +kernel
theorem dX8_order_90 : decode cX8_order 90 = .ok (.aload_n 0, 1) := by decide +kernel
theorem dX8_order_91 : decode cX8_order 91 = .ok (.aload_n 3, 1) := by decide +kernel
theorem dX8_order_92 : decode cX8_order 92 = .ok (.aload 5, 2) := by decide +kernel
theorem dX8_order_94 : decode cX8_order 94 = .ok (.getfield 165, 3) := by decide +kernel
theorem dX8_order_97 : decode cX8_order 97 = .ok (.aload 5, 2) := by decide +kernel
theorem dX8_order_99 : decode cX8_order 99 = .ok (.getfield 155, 3) := by decide +kernel
theorem dX8_order_102 : decode cX8_order 102 = .ok (.invokevirtual 168, 3) := by decide +kernel
theorem dX8_order_105 : decode cX8_order 105 = .ok (.iinc 4 1, 3) := by decide +kernel
theorem dX8_order_108 : decode cX8_order 108 = .ok (.goto (-59), 3) := by decide +kernel
theorem dX8_order_111 : decode cX8_order 111 = .ok (.aload_n 0, 1) := by decide +kernel
theorem dX8_order_112 : decode cX8_order 112 = .ok (.getfield 19, 3) := by decide +kernel
theorem dX8_order_115 : decode cX8_order 115 = .ok (.invokevirtual 64, 3) := by decide +kernel
theorem dX8_order_118 : decode cX8_order 118 = .ok (.iconst 1, 1) := by decide +kernel
theorem dX8_order_119 : decode cX8_order 119 = .ok (.isub, 1) := by decide +kernel
theorem dX8_order_120 : decode cX8_order 120 = .ok (.ireturn, 1) := by decide +kernel
theorem dX8_pass_0 : decode cX8_pass 0 = .ok (.iload_n 1, 1) := by decide +kernel
theorem dX8_pass_1 : decode cX8_pass 1 = .ok (.iconst 1, 1) := by decide +kernel
theorem dX8_pass_2 : decode cX8_pass 2 = .ok (.sipush 200, 3) := by decide +kernel
theorem dX8_pass_5 : decode cX8_pass 5 = .ok (.invokestatic 53, 3) := by decide +kernel
theorem dX8_pass_8 : decode cX8_pass 8 = .ok (.ifCond .eq 13, 3) := by decide +kernel
theorem dX8_pass_11 : decode cX8_pass 11 = .ok (.new 57, 3) := by decide +kernel
theorem dX8_pass_14 : decode cX8_pass 14 = .ok (.dup, 1) := by decide +kernel
theorem dX8_pass_15 : decode cX8_pass 15 = .ok (.ldc 172, 2) := by decide +kernel
theorem dX8_pass_17 : decode cX8_pass 17 = .ok (.invokespecial 61, 3) := by decide +kernel
theorem dX8_pass_20 : decode cX8_pass 20 = .ok (.athrow, 1) := by decide +kernel
theorem dX8_pass_21 : decode cX8_pass 21 = .ok (.iconst 0, 1) := by decide +kernel
theorem dX8_pass_22 : decode cX8_pass 22 = .ok (.istore_n 2, 1) := by decide +kernel
theorem dX8_pass_23 : decode cX8_pass 23 = .ok (.iconst 0, 1) := by decide +kernel
theorem dX8_pass_24 : decode cX8_pass 24 = .ok (.istore_n 3, 1) := by decide +kernel
theorem dX8_pass_25 : decode cX8_pass 25 = .ok (.iload_n 3, 1) := by decide +kernel
theorem dX8_pass_26 : decode cX8_pass 26 = .ok (.iload_n 1, 1) := by decide +kernel
theorem dX8_pass_27 : decode cX8_pass 27 = .ok (.if_icmp .ge 30, 3) := by decide +kernel
theorem dX8_pass_30 : decode cX8_pass 30 = .ok (.aload_n 0, 1) := by decide +kernel
theorem dX8_pass_31 : decode cX8_pass 31 = .ok (.dup, 1) := by decide +kernel
theorem dX8_pass_32 : decode cX8_pass 32 = .ok (.getfield 35, 3) := by decide +kernel
theorem dX8_pass_35 : decode cX8_pass 35 = .ok (.iconst 1, 1) := by decide +kernel
theorem dX8_pass_36 : decode cX8_pass 36 = .ok (.iadd, 1) := by decide +kernel
theorem dX8_pass_37 : decode cX8_pass 37 = .ok (.putfield 35, 3) := by decide +kernel
theorem dX8_pass_40 : decode cX8_pass 40 = .ok (.aload_n 0, 1) := by decide +kernel
theorem dX8_pass_41 : decode cX8_pass 41 = .ok (.invokevirtual 174, 3) := by decide +kernel
theorem dX8_pass_44 : decode cX8_pass 44 = .ok (.iload_n 2, 1) := by decide +kernel
theorem dX8_pass_45 : decode cX8_pass 45 = .ok (.aload_n 0, 1) := by decide +kernel
theorem dX8_pass_46 : decode cX8_pass 46 = .ok (.invokevirtual 177, 3) := by decide +kernel
theorem dX8_pass_49 : decode cX8_pass 49 = .ok (.iadd, 1) := by decide +kernel
theorem dX8_pass_50 : decode cX8_pass 50 = .ok (.istore_n 2, 1) := by decide +kernel
theorem dX8_pass_51 : decode cX8_pass 51 = .ok (.iinc 3 1, 3) := by decide +kernel
theorem dX8_pass_54 : decode cX8_pass 54 = .ok (.goto (-29), 3) := by decide +kernel
theorem dX8_pass_57 : decode cX8_pass 57 = .ok (.iload_n 2, 1) := by decide +kernel
theorem dX8_pass_58 : decode cX8_pass 58 = .ok (.ireturn, 1) := by decide +kernel
theorem dX8_time_0 : decode cX8_time 0 = .ok (.aload_n 0, 1) := by decide +kernel
theorem dX8_time_1 : decode cX8_time 1 = .ok (.getfield 35, 3) := by decide +kernel
theorem dX8_time_4 : decode cX8_time 4 = .ok (.ireturn, 1) := by decide +kernel
theorem dX8_waiting_0 : decode cX8_waiting 0 = .ok (.aload_n 0, 1) := by decide +kernel
theorem dX8_waiting_1 : decode cX8_waiting 1 = .ok (.getfield 25, 3) := by decide +kernel
theorem dX8_waiting_4 : decode cX8_waiting 4 = .ok (.invokevirtual 64, 3) := by decide +kernel
theorem dX8_waiting_7 : decode cX8_waiting 7 = .ok (.ireturn, 1) := by decide +kernel
theorem dX8_cutterOn_0 : decode cX8_cutterOn 0 = .ok (.aload_n 0, 1) := by decide +kernel
theorem dX8_cutterOn_1 : decode cX8_cutterOn 1 = .ok (.iload_n 1, 1) := by decide +kernel
theorem dX8_cutterOn_2 : decode cX8_cutterOn 2 = .ok (.invokevirtual 180, 3) := by decide +kernel
theorem dX8_cutterOn_5 : decode cX8_cutterOn 5 = .ok (.getfield 184, 3) := by decide +kernel
theorem dX8_cutterOn_8 : decode cX8_cutterOn 8 = .ok (.ireturn, 1) := by decide +kernel
theorem dX8_ticksLeft_0 : decode cX8_ticksLeft 0 = .ok (.aload_n 0, 1) := by decide +kernel
theorem dX8_ticksLeft_1 : decode cX8_ticksLeft 1 = .ok (.iload_n 1, 1) := by decide +kernel
theorem dX8_ticksLeft_2 : decode cX8_ticksLeft 2 = .ok (.invokevirtual 180, 3) := by decide +kernel
theorem dX8_ticksLeft_5 : decode cX8_ticksLeft 5 = .ok (.getfield 187, 3) := by decide +kernel
theorem dX8_ticksLeft_8 : decode cX8_ticksLeft 8 = .ok (.ireturn, 1) := by decide +kernel
theorem dX8_gearsLeft_0 : decode cX8_gearsLeft 0 = .ok (.aload_n 0, 1) := by decide +kernel
theorem dX8_gearsLeft_1 : decode cX8_gearsLeft 1 = .ok (.iload_n 1, 1) := by decide +kernel
theorem dX8_gearsLeft_2 : decode cX8_gearsLeft 2 = .ok (.invokevirtual 190, 3) := by decide +kernel
theorem dX8_gearsLeft_5 : decode cX8_gearsLeft 5 = .ok (.getfield 194, 3) := by decide +kernel
theorem dX8_gearsLeft_8 : decode cX8_gearsLeft 8 = .ok (.ireturn, 1) := by decide +kernel
theorem dX8_doneAt_0 : decode cX8_doneAt 0 = .ok (.aload_n 0, 1) := by decide +kernel
theorem dX8_doneAt_1 : decode cX8_doneAt 1 = .ok (.iload_n 1, 1) := by decide +kernel
theorem dX8_doneAt_2 : decode cX8_doneAt 2 = .ok (.invokevirtual 190, 3) := by decide +kernel
theorem dX8_doneAt_5 : decode cX8_doneAt 5 = .ok (.getfield 197, 3) := by decide +kernel
theorem dX8_doneAt_8 : decode cX8_doneAt 8 = .ok (.ireturn, 1) := by decide +kernel
theorem dX8_test_0 : decode cX8_test 0 = .ok (.aload_n 0, 1) := by decide +kernel
theorem dX8_test_1 : decode cX8_test 1 = .ok (.iload_n 1, 1) := by decide +kernel
theorem dX8_test_2 : decode cX8_test 2 = .ok (.invokevirtual 190, 3) := by decide +kernel
theorem dX8_test_5 : decode cX8_test 5 = .ok (.astore 4, 2) := by decide +kernel
theorem dX8_test_7 : decode cX8_test 7 = .ok (.iload_n 2, 1) := by decide +kernel
theorem dX8_test_8 : decode cX8_test 8 = .ok (.iconst 1, 1) := by decide +kernel
theorem dX8_test_9 : decode cX8_test 9 = .ok (.bipush 100, 2) := by decide +kernel
theorem dX8_test_11 : decode cX8_test 11 = .ok (.invokestatic 53, 3) := by decide +kernel
theorem dX8_test_14 : decode cX8_test 14 = .ok (.ifCond .ne 13, 3) := by decide +kernel
theorem dX8_test_17 : decode cX8_test 17 = .ok (.iload_n 3, 1) := by decide +kernel
theorem dX8_test_18 : decode cX8_test 18 = .ok (.iconst 1, 1) := by decide +kernel
theorem dX8_test_19 : decode cX8_test 19 = .ok (.bipush 100, 2) := by decide +kernel
theorem dX8_test_21 : decode cX8_test 21 = .ok (.invokestatic 53, 3) := by decide +kernel
theorem dX8_test_24 : decode cX8_test 24 = .ok (.ifCond .eq 13, 3) := by decide +kernel
theorem dX8_test_27 : decode cX8_test 27 = .ok (.new 57, 3) := by decide +kernel
theorem dX8_test_30 : decode cX8_test 30 = .ok (.dup, 1) := by decide +kernel
theorem dX8_test_31 : decode cX8_test 31 = .ok (.ldc 200, 2) := by decide +kernel
theorem dX8_test_33 : decode cX8_test 33 = .ok (.invokespecial 61, 3) := by decide +kernel
theorem dX8_test_36 : decode cX8_test 36 = .ok (.athrow, 1) := by decide +kernel
theorem dX8_test_37 : decode cX8_test 37 = .ok (.aload 4, 2) := by decide +kernel
theorem dX8_test_39 : decode cX8_test 39 = .ok (.getfield 194, 3) := by decide +kernel
theorem dX8_test_42 : decode cX8_test 42 = .ok (.ifCond .gt 11, 3) := by decide +kernel
theorem dX8_test_45 : decode cX8_test 45 = .ok (.aload 4, 2) := by decide +kernel
theorem dX8_test_47 : decode cX8_test 47 = .ok (.getfield 202, 3) := by decide +kernel
theorem dX8_test_50 : decode cX8_test 50 = .ok (.ifCond .eq 13, 3) := by decide +kernel
theorem dX8_test_53 : decode cX8_test 53 = .ok (.new 68, 3) := by decide +kernel
theorem dX8_test_56 : decode cX8_test 56 = .ok (.dup, 1) := by decide +kernel
theorem dX8_test_57 : decode cX8_test 57 = .ok (.ldc 206, 2) := by decide +kernel
theorem dX8_test_59 : decode cX8_test 59 = .ok (.invokespecial 72, 3) := by decide +kernel
theorem dX8_test_62 : decode cX8_test 62 = .ok (.athrow, 1) := by decide +kernel
theorem dX8_test_63 : decode cX8_test 63 = .ok (.aload 4, 2) := by decide +kernel
theorem dX8_test_65 : decode cX8_test 65 = .ok (.iload_n 2, 1) := by decide +kernel
theorem dX8_test_66 : decode cX8_test 66 = .ok (.iload_n 3, 1) := by decide +kernel
theorem dX8_test_67 : decode cX8_test 67 = .ok (.imul, 1) := by decide +kernel
theorem dX8_test_68 : decode cX8_test 68 = .ok (.invokevirtual 208, 3) := by decide +kernel
theorem dX8_test_71 : decode cX8_test 71 = .ok (.aload 4, 2) := by decide +kernel
theorem dX8_test_73 : decode cX8_test 73 = .ok (.getfield 202, 3) := by decide +kernel
theorem dX8_test_76 : decode cX8_test 76 = .ok (.ifCond .eq 17, 3) := by decide +kernel
theorem dX8_test_79 : decode cX8_test 79 = .ok (.aload 4, 2) := by decide +kernel
theorem dX8_test_81 : decode cX8_test 81 = .ok (.getfield 211, 3) := by decide +kernel
theorem dX8_test_84 : decode cX8_test 84 = .ok (.dup, 1) := by decide +kernel
theorem dX8_test_85 : decode cX8_test 85 = .ok (.getfield 214, 3) := by decide +kernel
theorem dX8_test_88 : decode cX8_test 88 = .ok (.iconst 1, 1) := by decide +kernel
theorem dX8_test_89 : decode cX8_test 89 = .ok (.iadd, 1) := by decide +kernel
theorem dX8_test_90 : decode cX8_test 90 = .ok (.putfield 214, 3) := by decide +kernel
theorem dX8_test_93 : decode cX8_test 93 = .ok (.aload 4, 2) := by decide +kernel
theorem dX8_test_95 : decode cX8_test 95 = .ok (.getfield 202, 3) := by decide +kernel
theorem dX8_test_98 : decode cX8_test 98 = .ok (.ireturn, 1) := by decide +kernel
theorem dX8_wear_0 : decode cX8_wear 0 = .ok (.aload_n 0, 1) := by decide +kernel
theorem dX8_wear_1 : decode cX8_wear 1 = .ok (.iload_n 1, 1) := by decide +kernel
theorem dX8_wear_2 : decode cX8_wear 2 = .ok (.invokevirtual 190, 3) := by decide +kernel
theorem dX8_wear_5 : decode cX8_wear 5 = .ok (.getfield 217, 3) := by decide +kernel
theorem dX8_wear_8 : decode cX8_wear 8 = .ok (.astore_n 3, 1) := by decide +kernel
theorem dX8_wear_9 : decode cX8_wear 9 = .ok (.iload_n 2, 1) := by decide +kernel
theorem dX8_wear_10 : decode cX8_wear 10 = .ok (.ifCond .lt 11, 3) := by decide +kernel
theorem dX8_wear_13 : decode cX8_wear 13 = .ok (.iload_n 2, 1) := by decide +kernel
theorem dX8_wear_14 : decode cX8_wear 14 = .ok (.aload_n 3, 1) := by decide +kernel
theorem dX8_wear_15 : decode cX8_wear 15 = .ok (.invokevirtual 64, 3) := by decide +kernel
theorem dX8_wear_18 : decode cX8_wear 18 = .ok (.if_icmp .lt 13, 3) := by decide +kernel
theorem dX8_wear_21 : decode cX8_wear 21 = .ok (.new 220, 3) := by decide +kernel
theorem dX8_wear_24 : decode cX8_wear 24 = .ok (.dup, 1) := by decide +kernel
theorem dX8_wear_25 : decode cX8_wear 25 = .ok (.ldc 222, 2) := by decide +kernel
theorem dX8_wear_27 : decode cX8_wear 27 = .ok (.invokespecial 224, 3) := by decide +kernel
theorem dX8_wear_30 : decode cX8_wear 30 = .ok (.athrow, 1) := by decide +kernel
theorem dX8_wear_31 : decode cX8_wear 31 = .ok (.aload_n 3, 1) := by decide +kernel
theorem dX8_wear_32 : decode cX8_wear 32 = .ok (.iload_n 2, 1) := by decide +kernel
theorem dX8_wear_33 : decode cX8_wear 33 = .ok (.invokevirtual 148, 3) := by decide +kernel
theorem dX8_wear_36 : decode cX8_wear 36 = .ok (.checkcast 225, 3) := by decide +kernel
theorem dX8_wear_39 : decode cX8_wear 39 = .ok (.getfield 227, 3) := by decide +kernel
theorem dX8_wear_42 : decode cX8_wear 42 = .ok (.ireturn, 1) := by decide +kernel
theorem dX8_claims_0 : decode cX8_claims 0 = .ok (.aload_n 0, 1) := by decide +kernel
theorem dX8_claims_1 : decode cX8_claims 1 = .ok (.iload_n 1, 1) := by decide +kernel
theorem dX8_claims_2 : decode cX8_claims 2 = .ok (.invokevirtual 117, 3) := by decide +kernel
theorem dX8_claims_5 : decode cX8_claims 5 = .ok (.getfield 214, 3) := by decide +kernel
theorem dX8_claims_8 : decode cX8_claims 8 = .ok (.ireturn, 1) := by decide +kernel
theorem dX8_leastNew_0 : decode cX8_leastNew 0 = .ok (.iload_n 1, 1) := by decide +kernel
theorem dX8_leastNew_1 : decode cX8_leastNew 1 = .ok (.invokestatic 46, 3) := by decide +kernel
theorem dX8_leastNew_4 : decode cX8_leastNew 4 = .ok (.ifCond .ne 27, 3) := by decide +kernel
theorem dX8_leastNew_7 : decode cX8_leastNew 7 = .ok (.iload_n 2, 1) := by decide +kernel
theorem dX8_leastNew_8 : decode cX8_leastNew 8 = .ok (.iconst 1, 1) := by decide +kernel
theorem dX8_leastNew_9 : decode cX8_leastNew 9 = .ok (.if_icmp .lt 22, 3) := by decide +kernel
theorem dX8_leastNew_12 : decode cX8_leastNew 12 = .ok (.iload_n 2, 1) := by decide +kernel
theorem dX8_leastNew_13 : decode cX8_leastNew 13 = .ok (.sipush 400, 3) := by decide +kernel
theorem dX8_leastNew_16 : decode cX8_leastNew 16 = .ok (.if_icmp .gt 15, 3) := by decide +kernel
theorem dX8_leastNew_19 : decode cX8_leastNew 19 = .ok (.iload_n 3, 1) := by decide +kernel
theorem dX8_leastNew_20 : decode cX8_leastNew 20 = .ok (.iconst 1, 1) := by decide +kernel
theorem dX8_leastNew_21 : decode cX8_leastNew 21 = .ok (.if_icmp .lt 10, 3) := by decide +kernel
theorem dX8_leastNew_24 : decode cX8_leastNew 24 = .ok (.iload_n 3, 1) := by decide +kernel
theorem dX8_leastNew_25 : decode cX8_leastNew 25 = .ok (.sipush 400, 3) := by decide +kernel
theorem dX8_leastNew_28 : decode cX8_leastNew 28 = .ok (.if_icmp .le 13, 3) := by decide +kernel
theorem dX8_leastNew_31 : decode cX8_leastNew 31 = .ok (.new 57, 3) := by decide +kernel
theorem dX8_leastNew_34 : decode cX8_leastNew 34 = .ok (.dup, 1) := by decide +kernel
theorem dX8_leastNew_35 : decode cX8_leastNew 35 = .ok (.ldc 230, 2) := by decide +kernel
theorem dX8_leastNew_37 : decode cX8_leastNew 37 = .ok (.invokespecial 61, 3) := by decide +kernel
theorem dX8_leastNew_40 : decode cX8_leastNew 40 = .ok (.athrow, 1) := by decide +kernel
theorem dX8_leastNew_41 : decode cX8_leastNew 41 = .ok (.aload_n 0, 1) := by decide +kernel
theorem dX8_leastNew_42 : decode cX8_leastNew 42 = .ok (.iload_n 1, 1) := by decide +kernel
theorem dX8_leastNew_43 : decode cX8_leastNew 43 = .ok (.invokevirtual 232, 3) := by decide +kernel
theorem dX8_leastNew_46 : decode cX8_leastNew 46 = .ok (.istore 4, 2) := by decide +kernel
theorem dX8_leastNew_48 : decode cX8_leastNew 48 = .ok (.iconst (-1), 1) := by decide +kernel
theorem dX8_leastNew_49 : decode cX8_leastNew 49 = .ok (.istore 5, 2) := by decide +kernel
theorem dX8_leastNew_51 : decode cX8_leastNew 51 = .ok (.bipush 8, 2) := by decide +kernel
theorem dX8_leastNew_53 : decode cX8_leastNew 53 = .ok (.istore 6, 2) := by decide +kernel
theorem dX8_leastNew_55 : decode cX8_leastNew 55 = .ok (.iload 6, 2) := by decide +kernel
theorem dX8_leastNew_57 : decode cX8_leastNew 57 = .ok (.bipush 20, 2) := by decide +kernel
theorem dX8_leastNew_59 : decode cX8_leastNew 59 = .ok (.if_icmp .gt 71, 3) := by decide +kernel
theorem dX8_leastNew_62 : decode cX8_leastNew 62 = .ok (.iload 6, 2) := by decide +kernel
theorem dX8_leastNew_64 : decode cX8_leastNew 64 = .ok (.istore 7, 2) := by decide +kernel
theorem dX8_leastNew_66 : decode cX8_leastNew 66 = .ok (.iload 7, 2) := by decide +kernel
theorem dX8_leastNew_68 : decode cX8_leastNew 68 = .ok (.bipush 20, 2) := by decide +kernel
theorem dX8_leastNew_70 : decode cX8_leastNew 70 = .ok (.if_icmp .gt 54, 3) := by decide +kernel
theorem dX8_leastNew_73 : decode cX8_leastNew 73 = .ok (.iload 6, 2) := by decide +kernel
theorem dX8_leastNew_75 : decode cX8_leastNew 75 = .ok (.iload 7, 2) := by decide +kernel
theorem dX8_leastNew_77 : decode cX8_leastNew 77 = .ok (.imul, 1) := by decide +kernel
theorem dX8_leastNew_78 : decode cX8_leastNew 78 = .ok (.iload_n 2, 1) := by decide +kernel
theorem dX8_leastNew_79 : decode cX8_leastNew 79 = .ok (.imul, 1) := by decide +kernel
theorem dX8_leastNew_80 : decode cX8_leastNew 80 = .ok (.istore 8, 2) := by decide +kernel
theorem dX8_leastNew_82 : decode cX8_leastNew 82 = .ok (.iload 8, 2) := by decide +kernel
theorem dX8_leastNew_84 : decode cX8_leastNew 84 = .ok (.iload_n 3, 1) := by decide +kernel
theorem dX8_leastNew_85 : decode cX8_leastNew 85 = .ok (.irem, 1) := by decide +kernel
theorem dX8_leastNew_86 : decode cX8_leastNew 86 = .ok (.ifCond .ne 32, 3) := by decide +kernel
theorem dX8_leastNew_89 : decode cX8_leastNew 89 = .ok (.iconst 1, 1) := by decide +kernel
theorem dX8_leastNew_90 : decode cX8_leastNew 90 = .ok (.iload 6, 2) := by decide +kernel
theorem dX8_leastNew_92 : decode cX8_leastNew 92 = .ok (.ishl, 1) := by decide +kernel
theorem dX8_leastNew_93 : decode cX8_leastNew 93 = .ok (.iconst 1, 1) := by decide +kernel
theorem dX8_leastNew_94 : decode cX8_leastNew 94 = .ok (.iload 7, 2) := by decide +kernel
theorem dX8_leastNew_96 : decode cX8_leastNew 96 = .ok (.ishl, 1) := by decide +kernel
theorem dX8_leastNew_97 : decode cX8_leastNew 97 = .ok (.ior, 1) := by decide +kernel
theorem dX8_leastNew_98 : decode cX8_leastNew 98 = .ok (.istore 9, 2) := by decide +kernel
theorem dX8_leastNew_100 : decode cX8_leastNew 100 = .ok (.iload 5, 2) := by decide +kernel
theorem dX8_leastNew_102 : decode cX8_leastNew 102 = .ok (.iload 9, 2) := by decide +kernel
theorem dX8_leastNew_104 : decode cX8_leastNew 104 = .ok (.iload 8, 2) := by decide +kernel
theorem dX8_leastNew_106 : decode cX8_leastNew 106 = .ok (.iload_n 3, 1) := by decide +kernel
theorem dX8_leastNew_107 : decode cX8_leastNew 107 = .ok (.idiv, 1) := by decide +kernel
theorem dX8_leastNew_108 : decode cX8_leastNew 108 = .ok (.iload 4, 2) := by decide +kernel
theorem dX8_leastNew_110 : decode cX8_leastNew 110 = .ok (.invokestatic 236, 3) := by decide +kernel
theorem dX8_leastNew_113 : decode cX8_leastNew 113 = .ok (.invokestatic 240, 3) := by decide +kernel
theorem dX8_leastNew_116 : decode cX8_leastNew 116 = .ok (.istore 5, 2) := by decide +kernel
theorem dX8_leastNew_118 : decode cX8_leastNew 118 = .ok (.iinc 7 1, 3) := by decide +kernel
theorem dX8_leastNew_121 : decode cX8_leastNew 121 = .ok (.goto (-55), 3) := by decide +kernel
theorem dX8_leastNew_124 : decode cX8_leastNew 124 = .ok (.iinc 6 1, 3) := by decide +kernel
theorem dX8_leastNew_127 : decode cX8_leastNew 127 = .ok (.goto (-72), 3) := by decide +kernel
theorem dX8_leastNew_130 : decode cX8_leastNew 130 = .ok (.iload 5, 2) := by decide +kernel
theorem dX8_leastNew_132 : decode cX8_leastNew 132 = .ok (.ireturn, 1) := by decide +kernel
theorem dX8_isOutside_0 : decode cX8_isOutside 0 = .ok (.iload_n 0, 1) := by decide +kernel
theorem dX8_isOutside_1 : decode cX8_isOutside 1 = .ok (.iload_n 1, 1) := by decide +kernel
theorem dX8_isOutside_2 : decode cX8_isOutside 2 = .ok (.if_icmp .lt 8, 3) := by decide +kernel
theorem dX8_isOutside_5 : decode cX8_isOutside 5 = .ok (.iload_n 0, 1) := by decide +kernel
theorem dX8_isOutside_6 : decode cX8_isOutside 6 = .ok (.iload_n 2, 1) := by decide +kernel
theorem dX8_isOutside_7 : decode cX8_isOutside 7 = .ok (.if_icmp .le 7, 3) := by decide +kernel
theorem dX8_isOutside_10 : decode cX8_isOutside 10 = .ok (.iconst 1, 1) := by decide +kernel
theorem dX8_isOutside_11 : decode cX8_isOutside 11 = .ok (.goto 4, 3) := by decide +kernel
theorem dX8_isOutside_14 : decode cX8_isOutside 14 = .ok (.iconst 0, 1) := by decide +kernel
theorem dX8_isOutside_15 : decode cX8_isOutside 15 = .ok (.ireturn, 1) := by decide +kernel
theorem dX8_isNoModule_0 : decode cX8_isNoModule 0 = .ok (.iload_n 0, 1) := by decide +kernel
theorem dX8_isNoModule_1 : decode cX8_isNoModule 1 = .ok (.iconst 1, 1) := by decide +kernel
theorem dX8_isNoModule_2 : decode cX8_isNoModule 2 = .ok (.iconst 4, 1) := by decide +kernel
theorem dX8_isNoModule_3 : decode cX8_isNoModule 3 = .ok (.invokestatic 53, 3) := by decide +kernel
theorem dX8_isNoModule_6 : decode cX8_isNoModule 6 = .ok (.ireturn, 1) := by decide +kernel
theorem dX8_isNoToothCount_0 : decode cX8_isNoToothCount 0 = .ok (.iload_n 0, 1) := by decide +kernel
theorem dX8_isNoToothCount_1 : decode cX8_isNoToothCount 1 = .ok (.bipush 8, 2) := by decide +kernel
theorem dX8_isNoToothCount_3 : decode cX8_isNoToothCount 3 = .ok (.bipush 60, 2) := by decide +kernel
theorem dX8_isNoToothCount_5 : decode cX8_isNoToothCount 5 = .ok (.invokestatic 53, 3) := by decide +kernel
theorem dX8_isNoToothCount_8 : decode cX8_isNoToothCount 8 = .ok (.ireturn, 1) := by decide +kernel
theorem dX8_checkTurns_0 : decode cX8_checkTurns 0 = .ok (.iload_n 0, 1) := by decide +kernel
theorem dX8_checkTurns_1 : decode cX8_checkTurns 1 = .ok (.iconst 0, 1) := by decide +kernel
theorem dX8_checkTurns_2 : decode cX8_checkTurns 2 = .ok (.ldc 243, 2) := by decide +kernel
theorem dX8_checkTurns_4 : decode cX8_checkTurns 4 = .ok (.invokestatic 53, 3) := by decide +kernel
theorem dX8_checkTurns_7 : decode cX8_checkTurns 7 = .ok (.ifCond .eq 13, 3) := by decide +kernel
theorem dX8_checkTurns_10 : decode cX8_checkTurns 10 = .ok (.new 57, 3) := by decide +kernel
theorem dX8_checkTurns_13 : decode cX8_checkTurns 13 = .ok (.dup, 1) := by decide +kernel
theorem dX8_checkTurns_14 : decode cX8_checkTurns 14 = .ok (.ldc 244, 2) := by decide +kernel
theorem dX8_checkTurns_16 : decode cX8_checkTurns 16 = .ok (.invokespecial 61, 3) := by decide +kernel
theorem dX8_checkTurns_19 : decode cX8_checkTurns 19 = .ok (.athrow, 1) := by decide +kernel
theorem dX8_checkTurns_20 : decode cX8_checkTurns 20 = .ok (.return_, 1) := by decide +kernel
theorem dX8_trainAt_0 : decode cX8_trainAt 0 = .ok (.iload_n 1, 1) := by decide +kernel
theorem dX8_trainAt_1 : decode cX8_trainAt 1 = .ok (.ifCond .lt 14, 3) := by decide +kernel
theorem dX8_trainAt_4 : decode cX8_trainAt 4 = .ok (.iload_n 1, 1) := by decide +kernel
theorem dX8_trainAt_5 : decode cX8_trainAt 5 = .ok (.aload_n 0, 1) := by decide +kernel
theorem dX8_trainAt_6 : decode cX8_trainAt 6 = .ok (.getfield 16, 3) := by decide +kernel
theorem dX8_trainAt_9 : decode cX8_trainAt 9 = .ok (.invokevirtual 64, 3) := by decide +kernel
theorem dX8_trainAt_12 : decode cX8_trainAt 12 = .ok (.if_icmp .lt 13, 3) := by decide +kernel
theorem dX8_trainAt_15 : decode cX8_trainAt 15 = .ok (.new 220, 3) := by decide +kernel
theorem dX8_trainAt_18 : decode cX8_trainAt 18 = .ok (.dup, 1) := by decide +kernel
theorem dX8_trainAt_19 : decode cX8_trainAt 19 = .ok (.ldc 246, 2) := by decide +kernel
theorem dX8_trainAt_21 : decode cX8_trainAt 21 = .ok (.invokespecial 224, 3) := by decide +kernel
theorem dX8_trainAt_24 : decode cX8_trainAt 24 = .ok (.athrow, 1) := by decide +kernel
theorem dX8_trainAt_25 : decode cX8_trainAt 25 = .ok (.aload_n 0, 1) := by decide +kernel
theorem dX8_trainAt_26 : decode cX8_trainAt 26 = .ok (.getfield 16, 3) := by decide +kernel
theorem dX8_trainAt_29 : decode cX8_trainAt 29 = .ok (.iload_n 1, 1) := by decide +kernel
theorem dX8_trainAt_30 : decode cX8_trainAt 30 = .ok (.invokevirtual 148, 3) := by decide +kernel
theorem dX8_trainAt_33 : decode cX8_trainAt 33 = .ok (.checkcast 28, 3) := by decide +kernel
theorem dX8_trainAt_36 : decode cX8_trainAt 36 = .ok (.areturn, 1) := by decide +kernel
theorem dX8_orderAt_0 : decode cX8_orderAt 0 = .ok (.iload_n 1, 1) := by decide +kernel
theorem dX8_orderAt_1 : decode cX8_orderAt 1 = .ok (.ifCond .lt 14, 3) := by decide +kernel
theorem dX8_orderAt_4 : decode cX8_orderAt 4 = .ok (.iload_n 1, 1) := by decide +kernel
theorem dX8_orderAt_5 : decode cX8_orderAt 5 = .ok (.aload_n 0, 1) := by decide +kernel
theorem dX8_orderAt_6 : decode cX8_orderAt 6 = .ok (.getfield 19, 3) := by decide +kernel
theorem dX8_orderAt_9 : decode cX8_orderAt 9 = .ok (.invokevirtual 64, 3) := by decide +kernel
theorem dX8_orderAt_12 : decode cX8_orderAt 12 = .ok (.if_icmp .lt 13, 3) := by decide +kernel
theorem dX8_orderAt_15 : decode cX8_orderAt 15 = .ok (.new 220, 3) := by decide +kernel
theorem dX8_orderAt_18 : decode cX8_orderAt 18 = .ok (.dup, 1) := by decide +kernel
theorem dX8_orderAt_19 : decode cX8_orderAt 19 = .ok (.ldc 248, 2) := by decide +kernel
theorem dX8_orderAt_21 : decode cX8_orderAt 21 = .ok (.invokespecial 224, 3) := by decide +kernel
theorem dX8_orderAt_24 : decode cX8_orderAt 24 = .ok (.athrow, 1) := by decide +kernel
theorem dX8_orderAt_25 : decode cX8_orderAt 25 = .ok (.aload_n 0, 1) := by decide +kernel
theorem dX8_orderAt_26 : decode cX8_orderAt 26 = .ok (.getfield 19, 3) := by decide +kernel
theorem dX8_orderAt_29 : decode cX8_orderAt 29 = .ok (.iload_n 1, 1) := by decide +kernel
theorem dX8_orderAt_30 : decode cX8_orderAt 30 = .ok (.invokevirtual 148, 3) := by decide +kernel
theorem dX8_orderAt_33 : decode cX8_orderAt 33 = .ok (.checkcast 160, 3) := by decide +kernel
theorem dX8_orderAt_36 : decode cX8_orderAt 36 = .ok (.areturn, 1) := by decide +kernel
theorem dX8_machineAt_0 : decode cX8_machineAt 0 = .ok (.iload_n 1, 1) := by decide +kernel
theorem dX8_machineAt_1 : decode cX8_machineAt 1 = .ok (.ifCond .lt 14, 3) := by decide +kernel
theorem dX8_machineAt_4 : decode cX8_machineAt 4 = .ok (.iload_n 1, 1) := by decide +kernel
theorem dX8_machineAt_5 : decode cX8_machineAt 5 = .ok (.aload_n 0, 1) := by decide +kernel
theorem dX8_machineAt_6 : decode cX8_machineAt 6 = .ok (.getfield 22, 3) := by decide +kernel
theorem dX8_machineAt_9 : decode cX8_machineAt 9 = .ok (.invokevirtual 64, 3) := by decide +kernel
theorem dX8_machineAt_12 : decode cX8_machineAt 12 = .ok (.if_icmp .lt 13, 3) := by decide +kernel
theorem dX8_machineAt_15 : decode cX8_machineAt 15 = .ok (.new 220, 3) := by decide +kernel
theorem dX8_machineAt_18 : decode cX8_machineAt 18 = .ok (.dup, 1) := by decide +kernel
theorem dX8_machineAt_19 : decode cX8_machineAt 19 = .ok (.ldc 250, 2) := by decide +kernel
theorem dX8_machineAt_21 : decode cX8_machineAt 21 = .ok (.invokespecial 224, 3) := by decide +kernel
theorem dX8_machineAt_24 : decode cX8_machineAt 24 = .ok (.athrow, 1) := by decide +kernel
theorem dX8_machineAt_25 : decode cX8_machineAt 25 = .ok (.aload_n 0, 1) := by decide +kernel
theorem dX8_machineAt_26 : decode cX8_machineAt 26 = .ok (.getfield 22, 3) := by decide +kernel
theorem dX8_machineAt_29 : decode cX8_machineAt 29 = .ok (.iload_n 1, 1) := by decide +kernel
theorem dX8_machineAt_30 : decode cX8_machineAt 30 = .ok (.invokevirtual 148, 3) := by decide +kernel
theorem dX8_machineAt_33 : decode cX8_machineAt 33 = .ok (.checkcast 39, 3) := by decide +kernel
theorem dX8_machineAt_36 : decode cX8_machineAt 36 = .ok (.areturn, 1) := by decide +kernel
theorem dX8_lowestCutter_0 : decode cX8_lowestCutter 0 = .ok (.iconst 0, 1) := by decide +kernel
theorem dX8_lowestCutter_1 : decode cX8_lowestCutter 1 = .ok (.istore_n 3, 1) := by decide +kernel
theorem dX8_lowestCutter_2 : decode cX8_lowestCutter 2 = .ok (.iload_n 3, 1) := by decide +kernel
theorem dX8_lowestCutter_3 : decode cX8_lowestCutter 3 = .ok (.aload_n 0, 1) := by decide +kernel
theorem dX8_lowestCutter_4 : decode cX8_lowestCutter 4 = .ok (.getfield 10, 3) := by decide +kernel
theorem dX8_lowestCutter_7 : decode cX8_lowestCutter 7 = .ok (.invokevirtual 64, 3) := by decide +kernel
theorem dX8_lowestCutter_10 : decode cX8_lowestCutter 10 = .ok (.if_icmp .ge 30, 3) := by decide +kernel
theorem dX8_lowestCutter_13 : decode cX8_lowestCutter 13 = .ok (.aload_n 0, 1) := by decide +kernel
theorem dX8_lowestCutter_14 : decode cX8_lowestCutter 14 = .ok (.getfield 10, 3) := by decide +kernel
theorem dX8_lowestCutter_17 : decode cX8_lowestCutter 17 = .ok (.iload_n 3, 1) := by decide +kernel
theorem dX8_lowestCutter_18 : decode cX8_lowestCutter 18 = .ok (.invokevirtual 148, 3) := by decide +kernel
theorem dX8_lowestCutter_21 : decode cX8_lowestCutter 21 = .ok (.checkcast 73, 3) := by decide +kernel
theorem dX8_lowestCutter_24 : decode cX8_lowestCutter 24 = .ok (.iload_n 1, 1) := by decide +kernel
theorem dX8_lowestCutter_25 : decode cX8_lowestCutter 25 = .ok (.iload_n 2, 1) := by decide +kernel
theorem dX8_lowestCutter_26 : decode cX8_lowestCutter 26 = .ok (.invokevirtual 252, 3) := by decide +kernel
theorem dX8_lowestCutter_29 : decode cX8_lowestCutter 29 = .ok (.ifCond .eq 5, 3) := by decide +kernel
theorem dX8_lowestCutter_32 : decode cX8_lowestCutter 32 = .ok (.iload_n 3, 1) := by decide +kernel
theorem dX8_lowestCutter_33 : decode cX8_lowestCutter 33 = .ok (.ireturn, 1) := by decide +kernel
theorem dX8_lowestCutter_34 : decode cX8_lowestCutter 34 = .ok (.iinc 3 1, 3) := by decide +kernel
theorem dX8_lowestCutter_37 : decode cX8_lowestCutter 37 = .ok (.goto (-35), 3) := by decide +kernel
theorem dX8_lowestCutter_40 : decode cX8_lowestCutter 40 = .ok (.iconst (-1), 1) := by decide +kernel
theorem dX8_lowestCutter_41 : decode cX8_lowestCutter 41 = .ok (.ireturn, 1) := by decide +kernel
theorem dX8_hasAllCutters_0 : decode cX8_hasAllCutters 0 = .ok (.iconst 0, 1) := by decide +kernel
theorem dX8_hasAllCutters_1 : decode cX8_hasAllCutters 1 = .ok (.istore_n 2, 1) := by decide +kernel
theorem dX8_hasAllCutters_2 : decode cX8_hasAllCutters 2 = .ok (.iload_n 2, 1) := by decide +kernel
theorem dX8_hasAllCutters_3 : decode cX8_hasAllCutters 3 = .ok (.aload_n 1, 1) := by decide +kernel
theorem dX8_hasAllCutters_4 : decode cX8_hasAllCutters 4 = .ok (.getfield 86, 3) := by decide +kernel
theorem dX8_hasAllCutters_7 : decode cX8_hasAllCutters 7 = .ok (.invokevirtual 64, 3) := by decide +kernel
theorem dX8_hasAllCutters_10 : decode cX8_hasAllCutters 10 = .ok (.if_icmp .ge 55, 3) := by decide +kernel
theorem dX8_hasAllCutters_13 : decode cX8_hasAllCutters 13 = .ok (.aload_n 1, 1) := by decide +kernel
theorem dX8_hasAllCutters_14 : decode cX8_hasAllCutters 14 = .ok (.getfield 86, 3) := by decide +kernel
theorem dX8_hasAllCutters_17 : decode cX8_hasAllCutters 17 = .ok (.iload_n 2, 1) := by decide +kernel
theorem dX8_hasAllCutters_18 : decode cX8_hasAllCutters 18 = .ok (.invokevirtual 148, 3) := by decide +kernel
theorem dX8_hasAllCutters_21 : decode cX8_hasAllCutters 21 = .ok (.checkcast 91, 3) := by decide +kernel
theorem dX8_hasAllCutters_24 : decode cX8_hasAllCutters 24 = .ok (.astore_n 3, 1) := by decide +kernel
theorem dX8_hasAllCutters_25 : decode cX8_hasAllCutters 25 = .ok (.aload_n 0, 1) := by decide +kernel
theorem dX8_hasAllCutters_26 : decode cX8_hasAllCutters 26 = .ok (.aload_n 3, 1) := by decide +kernel
theorem dX8_hasAllCutters_27 : decode cX8_hasAllCutters 27 = .ok (.getfield 165, 3) := by decide +kernel
theorem dX8_hasAllCutters_30 : decode cX8_hasAllCutters 30 = .ok (.aload_n 3, 1) := by decide +kernel
theorem dX8_hasAllCutters_31 : decode cX8_hasAllCutters 31 = .ok (.getfield 152, 3) := by decide +kernel
theorem dX8_hasAllCutters_34 : decode cX8_hasAllCutters 34 = .ok (.invokevirtual 80, 3) := by decide +kernel
theorem dX8_hasAllCutters_37 : decode cX8_hasAllCutters 37 = .ok (.iconst (-1), 1) := by decide +kernel
theorem dX8_hasAllCutters_38 : decode cX8_hasAllCutters 38 = .ok (.if_icmp .eq 19, 3) := by decide +kernel
theorem dX8_hasAllCutters_41 : decode cX8_hasAllCutters 41 = .ok (.aload_n 0, 1) := by decide +kernel
theorem dX8_hasAllCutters_42 : decode cX8_hasAllCutters 42 = .ok (.aload_n 3, 1) := by decide +kernel
theorem dX8_hasAllCutters_43 : decode cX8_hasAllCutters 43 = .ok (.getfield 165, 3) := by decide +kernel
theorem dX8_hasAllCutters_46 : decode cX8_hasAllCutters 46 = .ok (.aload_n 3, 1) := by decide +kernel
theorem dX8_hasAllCutters_47 : decode cX8_hasAllCutters 47 = .ok (.getfield 155, 3) := by decide +kernel
theorem dX8_hasAllCutters_50 : decode cX8_hasAllCutters 50 = .ok (.invokevirtual 80, 3) := by decide +kernel
theorem dX8_hasAllCutters_53 : decode cX8_hasAllCutters 53 = .ok (.iconst (-1), 1) := by decide +kernel
theorem dX8_hasAllCutters_54 : decode cX8_hasAllCutters 54 = .ok (.if_icmp .ne 5, 3) := by decide +kernel
theorem dX8_hasAllCutters_57 : decode cX8_hasAllCutters 57 = .ok (.iconst 0, 1) := by decide +kernel
theorem dX8_hasAllCutters_58 : decode cX8_hasAllCutters 58 = .ok (.ireturn, 1) := by decide +kernel
theorem dX8_hasAllCutters_59 : decode cX8_hasAllCutters 59 = .ok (.iinc 2 1, 3) := by decide +kernel
theorem dX8_hasAllCutters_62 : decode cX8_hasAllCutters 62 = .ok (.goto (-60), 3) := by decide +kernel
theorem dX8_hasAllCutters_65 : decode cX8_hasAllCutters 65 = .ok (.iconst 1, 1) := by decide +kernel
theorem dX8_hasAllCutters_66 : decode cX8_hasAllCutters 66 = .ok (.ireturn, 1) := by decide +kernel
theorem dX8_queue_0 : decode cX8_queue 0 = .ok (.aload_n 0, 1) := by decide +kernel
theorem dX8_queue_1 : decode cX8_queue 1 = .ok (.getfield 25, 3) := by decide +kernel
theorem dX8_queue_4 : decode cX8_queue 4 = .ok (.new 256, 3) := by decide +kernel
theorem dX8_queue_7 : decode cX8_queue 7 = .ok (.dup, 1) := by decide +kernel
theorem dX8_queue_8 : decode cX8_queue 8 = .ok (.aload_n 1, 1) := by decide +kernel
theorem dX8_queue_9 : decode cX8_queue 9 = .ok (.iload_n 3, 1) := by decide +kernel
theorem dX8_queue_10 : decode cX8_queue 10 = .ok (.aload_n 0, 1) := by decide +kernel
theorem dX8_queue_11 : decode cX8_queue 11 = .ok (.iload_n 2, 1) := by decide +kernel
theorem dX8_queue_12 : decode cX8_queue 12 = .ok (.iload_n 3, 1) := by decide +kernel
theorem dX8_queue_13 : decode cX8_queue 13 = .ok (.invokevirtual 80, 3) := by decide +kernel
theorem dX8_queue_16 : decode cX8_queue 16 = .ok (.invokespecial 258, 3) := by decide +kernel
theorem dX8_queue_19 : decode cX8_queue 19 = .ok (.invokevirtual 42, 3) := by decide +kernel
theorem dX8_queue_22 : decode cX8_queue 22 = .ok (.pop, 1) := by decide +kernel
theorem dX8_queue_23 : decode cX8_queue 23 = .ok (.return_, 1) := by decide +kernel
theorem dX8_giveOutJobs_0 : decode cX8_giveOutJobs 0 = .ok (.iconst 0, 1) := by decide +kernel
theorem dX8_giveOutJobs_1 : decode cX8_giveOutJobs 1 = .ok (.istore_n 1, 1) := by decide +kernel
theorem dX8_giveOutJobs_2 : decode cX8_giveOutJobs 2 = .ok (.iload_n 1, 1) := by decide +kernel
theorem dX8_giveOutJobs_3 : decode cX8_giveOutJobs 3 = .ok (.aload_n 0, 1) := by decide +kernel
theorem dX8_giveOutJobs_4 : decode cX8_giveOutJobs 4 = .ok (.getfield 22, 3) := by decide +kernel
theorem dX8_giveOutJobs_7 : decode cX8_giveOutJobs 7 = .ok (.invokevirtual 64, 3) := by decide +kernel
theorem dX8_giveOutJobs_10 : decode cX8_giveOutJobs 10 = .ok (.if_icmp .ge 33, 3) := by decide +kernel
theorem dX8_giveOutJobs_13 : decode cX8_giveOutJobs 13 = .ok (.aload_n 0, 1) := by decide +kernel
theorem dX8_giveOutJobs_14 : decode cX8_giveOutJobs 14 = .ok (.getfield 22, 3) := by decide +kernel
theorem dX8_giveOutJobs_17 : decode cX8_giveOutJobs 17 = .ok (.iload_n 1, 1) := by decide +kernel
theorem dX8_giveOutJobs_18 : decode cX8_giveOutJobs 18 = .ok (.invokevirtual 148, 3) := by decide +kernel
theorem dX8_giveOutJobs_21 : decode cX8_giveOutJobs 21 = .ok (.checkcast 39, 3) := by decide +kernel
theorem dX8_giveOutJobs_24 : decode cX8_giveOutJobs 24 = .ok (.astore_n 2, 1) := by decide +kernel
theorem dX8_giveOutJobs_25 : decode cX8_giveOutJobs 25 = .ok (.aload_n 2, 1) := by decide +kernel
theorem dX8_giveOutJobs_26 : decode cX8_giveOutJobs 26 = .ok (.getfield 260, 3) := by decide +kernel
theorem dX8_giveOutJobs_29 : decode cX8_giveOutJobs 29 = .ok (.ifnonnull 8, 3) := by decide +kernel
theorem dX8_giveOutJobs_32 : decode cX8_giveOutJobs 32 = .ok (.aload_n 0, 1) := by decide +kernel
theorem dX8_giveOutJobs_33 : decode cX8_giveOutJobs 33 = .ok (.aload_n 2, 1) := by decide +kernel
theorem dX8_giveOutJobs_34 : decode cX8_giveOutJobs 34 = .ok (.invokevirtual 264, 3) := by decide +kernel
theorem dX8_giveOutJobs_37 : decode cX8_giveOutJobs 37 = .ok (.iinc 1 1, 3) := by decide +kernel
theorem dX8_giveOutJobs_40 : decode cX8_giveOutJobs 40 = .ok (.goto (-38), 3) := by decide +kernel
theorem dX8_giveOutJobs_43 : decode cX8_giveOutJobs 43 = .ok (.return_, 1) := by decide +kernel
theorem dX8_giveJob_0 : decode cX8_giveJob 0 = .ok (.aload_n 0, 1) := by decide +kernel
theorem dX8_giveJob_1 : decode cX8_giveJob 1 = .ok (.aload_n 1, 1) := by decide +kernel
theorem dX8_giveJob_2 : decode cX8_giveJob 2 = .ok (.invokevirtual 268, 3) := by decide +kernel
theorem dX8_giveJob_5 : decode cX8_giveJob 5 = .ok (.istore_n 2, 1) := by decide +kernel
theorem dX8_giveJob_6 : decode cX8_giveJob 6 = .ok (.iconst 0, 1) := by decide +kernel
theorem dX8_giveJob_7 : decode cX8_giveJob 7 = .ok (.istore_n 3, 1) := by decide +kernel
theorem dX8_giveJob_8 : decode cX8_giveJob 8 = .ok (.iload_n 2, 1) := by decide +kernel
theorem dX8_giveJob_9 : decode cX8_giveJob 9 = .ok (.iconst (-1), 1) := by decide +kernel
theorem dX8_giveJob_10 : decode cX8_giveJob 10 = .ok (.if_icmp .ne 11, 3) := by decide +kernel
theorem dX8_giveJob_13 : decode cX8_giveJob 13 = .ok (.aload_n 0, 1) := by decide +kernel
theorem dX8_giveJob_14 : decode cX8_giveJob 14 = .ok (.aload_n 1, 1) := by decide +kernel
theorem dX8_giveJob_15 : decode cX8_giveJob 15 = .ok (.invokevirtual 272, 3) := by decide +kernel
theorem dX8_giveJob_18 : decode cX8_giveJob 18 = .ok (.istore_n 2, 1) := by decide +kernel
theorem dX8_giveJob_19 : decode cX8_giveJob 19 = .ok (.iconst 3, 1) := by decide +kernel
theorem dX8_giveJob_20 : decode cX8_giveJob 20 = .ok (.istore_n 3, 1) := by decide +kernel
theorem dX8_giveJob_21 : decode cX8_giveJob 21 = .ok (.iload_n 2, 1) := by decide +kernel
theorem dX8_giveJob_22 : decode cX8_giveJob 22 = .ok (.ifCond .lt 14, 3) := by decide +kernel
theorem dX8_giveJob_25 : decode cX8_giveJob 25 = .ok (.iload_n 2, 1) := by decide +kernel
theorem dX8_giveJob_26 : decode cX8_giveJob 26 = .ok (.aload_n 0, 1) := by decide +kernel
theorem dX8_giveJob_27 : decode cX8_giveJob 27 = .ok (.getfield 25, 3) := by decide +kernel
theorem dX8_giveJob_30 : decode cX8_giveJob 30 = .ok (.invokevirtual 64, 3) := by decide +kernel
theorem dX8_giveJob_33 : decode cX8_giveJob 33 = .ok (.if_icmp .lt 4, 3) := by decide +kernel
theorem dX8_giveJob_36 : decode cX8_giveJob 36 = .ok (.return_, 1) := by decide +kernel
theorem dX8_giveJob_37 : decode cX8_giveJob 37 = .ok (.aload_n 1, 1) := by decide +kernel
theorem dX8_giveJob_38 : decode cX8_giveJob 38 = .ok (.aload_n 0, 1) := by decide +kernel
theorem dX8_giveJob_39 : decode cX8_giveJob 39 = .ok (.getfield 25, 3) := by decide +kernel
theorem dX8_giveJob_42 : decode cX8_giveJob 42 = .ok (.iload_n 2, 1) := by decide +kernel
theorem dX8_giveJob_43 : decode cX8_giveJob 43 = .ok (.invokevirtual 148, 3) := by decide +kernel
theorem dX8_giveJob_46 : decode cX8_giveJob 46 = .ok (.checkcast 256, 3) := by decide +kernel
theorem dX8_giveJob_49 : decode cX8_giveJob 49 = .ok (.iload_n 3, 1) := by decide +kernel
theorem dX8_giveJob_50 : decode cX8_giveJob 50 = .ok (.invokevirtual 275, 3) := by decide +kernel
theorem dX8_giveJob_53 : decode cX8_giveJob 53 = .ok (.aload_n 0, 1) := by decide +kernel
theorem dX8_giveJob_54 : decode cX8_giveJob 54 = .ok (.getfield 25, 3) := by decide +kernel
theorem dX8_giveJob_57 : decode cX8_giveJob 57 = .ok (.iload_n 2, 1) := by decide +kernel
theorem dX8_giveJob_58 : decode cX8_giveJob 58 = .ok (.invokevirtual 279, 3) := by decide +kernel
theorem dX8_giveJob_61 : decode cX8_giveJob 61 = .ok (.pop, 1) := by decide +kernel
theorem dX8_giveJob_62 : decode cX8_giveJob 62 = .ok (.return_, 1) := by decide +kernel
theorem dX8_firstWithCutterOf_0 : decode cX8_firstWithCutterOf 0 = .ok (.iconst 0, 1) := by decide +kernel
theorem dX8_firstWithCutterOf_1 : decode cX8_firstWithCutterOf 1 = .ok (.istore_n 2, 1) := by decide +kernel
theorem dX8_firstWithCutterOf_2 : decode cX8_firstWithCutterOf 2 = .ok (.iload_n 2, 1) := by decide +kernel
theorem dX8_firstWithCutterOf_3 : decode cX8_firstWithCutterOf 3 = .ok (.aload_n 0, 1) := by decide +kernel
theorem dX8_firstWithCutterOf_4 : decode cX8_firstWithCutterOf 4 = .ok (.getfield 25, 3) := by decide +kernel
theorem dX8_firstWithCutterOf_7 : decode cX8_firstWithCutterOf 7 = .ok (.invokevirtual 64, 3) := by decide +kernel
theorem dX8_firstWithCutterOf_10 : decode cX8_firstWithCutterOf 10 = .ok (.if_icmp .ge 32, 3) := by decide +kernel
theorem dX8_firstWithCutterOf_13 : decode cX8_firstWithCutterOf 13 = .ok (.aload_n 0, 1) := by decide +kernel
theorem dX8_firstWithCutterOf_14 : decode cX8_firstWithCutterOf 14 = .ok (.getfield 25, 3) := by decide +kernel
theorem dX8_firstWithCutterOf_17 : decode cX8_firstWithCutterOf 17 = .ok (.iload_n 2, 1) := by decide +kernel
theorem dX8_firstWithCutterOf_18 : decode cX8_firstWithCutterOf 18 = .ok (.invokevirtual 148, 3) := by decide +kernel
theorem dX8_firstWithCutterOf_21 : decode cX8_firstWithCutterOf 21 = .ok (.checkcast 256, 3) := by decide +kernel
theorem dX8_firstWithCutterOf_24 : decode cX8_firstWithCutterOf 24 = .ok (.getfield 282, 3) := by decide +kernel
theorem dX8_firstWithCutterOf_27 : decode cX8_firstWithCutterOf 27 = .ok (.aload_n 1, 1) := by decide +kernel
theorem dX8_firstWithCutterOf_28 : decode cX8_firstWithCutterOf 28 = .ok (.getfield 184, 3) := by decide +kernel
theorem dX8_firstWithCutterOf_31 : decode cX8_firstWithCutterOf 31 = .ok (.if_icmp .ne 5, 3) := by decide +kernel
theorem dX8_firstWithCutterOf_34 : decode cX8_firstWithCutterOf 34 = .ok (.iload_n 2, 1) := by decide +kernel
theorem dX8_firstWithCutterOf_35 : decode cX8_firstWithCutterOf 35 = .ok (.ireturn, 1) := by decide +kernel
theorem dX8_firstWithCutterOf_36 : decode cX8_firstWithCutterOf 36 = .ok (.iinc 2 1, 3) := by decide +kernel
theorem dX8_firstWithCutterOf_39 : decode cX8_firstWithCutterOf 39 = .ok (.goto (-37), 3) := by decide +kernel
theorem dX8_firstWithCutterOf_42 : decode cX8_firstWithCutterOf 42 = .ok (.iconst (-1), 1) := by decide +kernel
theorem dX8_firstWithCutterOf_43 : decode cX8_firstWithCutterOf 43 = .ok (.ireturn, 1) := by decide +kernel
theorem dX8_firstWithFreeCutter_0 : decode cX8_firstWithFreeCutter 0 = .ok (.iconst 0, 1) := by decide +kernel
theorem dX8_firstWithFreeCutter_1 : decode cX8_firstWithFreeCutter 1 = .ok (.istore_n 2, 1) := by decide +kernel
theorem dX8_firstWithFreeCutter_2 : decode cX8_firstWithFreeCutter 2 = .ok (.iload_n 2, 1) := by decide +kernel
theorem dX8_firstWithFreeCutter_3 : decode cX8_firstWithFreeCutter 3 = .ok (.aload_n 0, 1) := by decide +kernel
theorem dX8_firstWithFreeCutter_4 : decode cX8_firstWithFreeCutter 4 = .ok (.getfield 25, 3) := by decide +kernel
theorem dX8_firstWithFreeCutter_7 : decode cX8_firstWithFreeCutter 7 = .ok (.invokevirtual 64, 3) := by decide +kernel
theorem dX8_firstWithFreeCutter_10 : decode cX8_firstWithFreeCutter 10 = .ok (.if_icmp .ge 33, 3) := by decide +kernel
theorem dX8_firstWithFreeCutter_13 : decode cX8_firstWithFreeCutter 13 = .ok (.aload_n 0, 1) := by decide +kernel
theorem dX8_firstWithFreeCutter_14 : decode cX8_firstWithFreeCutter 14 = .ok (.aload_n 1, 1) := by decide +kernel
theorem dX8_firstWithFreeCutter_15 : decode cX8_firstWithFreeCutter 15 = .ok (.aload_n 0, 1) := by decide +kernel
theorem dX8_firstWithFreeCutter_16 : decode cX8_firstWithFreeCutter 16 = .ok (.getfield 25, 3) := by decide +kernel
theorem dX8_firstWithFreeCutter_19 : decode cX8_firstWithFreeCutter 19 = .ok (.iload_n 2, 1) := by decide +kernel
theorem dX8_firstWithFreeCutter_20 : decode cX8_firstWithFreeCutter 20 = .ok (.invokevirtual 148, 3) := by decide +kernel
theorem dX8_firstWithFreeCutter_23 : decode cX8_firstWithFreeCutter 23 = .ok (.checkcast 256, 3) := by decide +kernel
theorem dX8_firstWithFreeCutter_26 : decode cX8_firstWithFreeCutter 26 = .ok (.getfield 282, 3) := by decide +kernel
theorem dX8_firstWithFreeCutter_29 : decode cX8_firstWithFreeCutter 29 = .ok (.invokevirtual 283, 3) := by decide +kernel
theorem dX8_firstWithFreeCutter_32 : decode cX8_firstWithFreeCutter 32 = .ok (.ifCond .ne 5, 3) := by decide +kernel
theorem dX8_firstWithFreeCutter_35 : decode cX8_firstWithFreeCutter 35 = .ok (.iload_n 2, 1) := by decide +kernel
theorem dX8_firstWithFreeCutter_36 : decode cX8_firstWithFreeCutter 36 = .ok (.ireturn, 1) := by decide +kernel
theorem dX8_firstWithFreeCutter_37 : decode cX8_firstWithFreeCutter 37 = .ok (.iinc 2 1, 3) := by decide +kernel
theorem dX8_firstWithFreeCutter_40 : decode cX8_firstWithFreeCutter 40 = .ok (.goto (-38), 3) := by decide +kernel
theorem dX8_firstWithFreeCutter_43 : decode cX8_firstWithFreeCutter 43 = .ok (.iconst (-1), 1) := by decide +kernel
theorem dX8_firstWithFreeCutter_44 : decode cX8_firstWithFreeCutter 44 = .ok (.ireturn, 1) := by decide +kernel
theorem dX8_isOnAnother_0 : decode cX8_isOnAnother 0 = .ok (.iconst 0, 1) := by decide +kernel
theorem dX8_isOnAnother_1 : decode cX8_isOnAnother 1 = .ok (.istore_n 3, 1) := by decide +kernel
theorem dX8_isOnAnother_2 : decode cX8_isOnAnother 2 = .ok (.iload_n 3, 1) := by decide +kernel
theorem dX8_isOnAnother_3 : decode cX8_isOnAnother 3 = .ok (.aload_n 0, 1) := by decide +kernel
theorem dX8_isOnAnother_4 : decode cX8_isOnAnother 4 = .ok (.getfield 22, 3) := by decide +kernel
theorem dX8_isOnAnother_7 : decode cX8_isOnAnother 7 = .ok (.invokevirtual 64, 3) := by decide +kernel
theorem dX8_isOnAnother_10 : decode cX8_isOnAnother 10 = .ok (.if_icmp .ge 39, 3) := by decide +kernel
theorem dX8_isOnAnother_13 : decode cX8_isOnAnother 13 = .ok (.aload_n 0, 1) := by decide +kernel
theorem dX8_isOnAnother_14 : decode cX8_isOnAnother 14 = .ok (.getfield 22, 3) := by decide +kernel
theorem dX8_isOnAnother_17 : decode cX8_isOnAnother 17 = .ok (.iload_n 3, 1) := by decide +kernel
theorem dX8_isOnAnother_18 : decode cX8_isOnAnother 18 = .ok (.invokevirtual 148, 3) := by decide +kernel
theorem dX8_isOnAnother_21 : decode cX8_isOnAnother 21 = .ok (.checkcast 39, 3) := by decide +kernel
theorem dX8_isOnAnother_24 : decode cX8_isOnAnother 24 = .ok (.astore 4, 2) := by decide +kernel
theorem dX8_isOnAnother_26 : decode cX8_isOnAnother 26 = .ok (.aload 4, 2) := by decide +kernel
theorem dX8_isOnAnother_28 : decode cX8_isOnAnother 28 = .ok (.aload_n 1, 1) := by decide +kernel
theorem dX8_isOnAnother_29 : decode cX8_isOnAnother 29 = .ok (.if_acmp .eq 14, 3) := by decide +kernel
theorem dX8_isOnAnother_32 : decode cX8_isOnAnother 32 = .ok (.aload 4, 2) := by decide +kernel
theorem dX8_isOnAnother_34 : decode cX8_isOnAnother 34 = .ok (.getfield 184, 3) := by decide +kernel
theorem dX8_isOnAnother_37 : decode cX8_isOnAnother 37 = .ok (.iload_n 2, 1) := by decide +kernel
theorem dX8_isOnAnother_38 : decode cX8_isOnAnother 38 = .ok (.if_icmp .ne 5, 3) := by decide +kernel
theorem dX8_isOnAnother_41 : decode cX8_isOnAnother 41 = .ok (.iconst 1, 1) := by decide +kernel
theorem dX8_isOnAnother_42 : decode cX8_isOnAnother 42 = .ok (.ireturn, 1) := by decide +kernel
theorem dX8_isOnAnother_43 : decode cX8_isOnAnother 43 = .ok (.iinc 3 1, 3) := by decide +kernel
theorem dX8_isOnAnother_46 : decode cX8_isOnAnother 46 = .ok (.goto (-44), 3) := by decide +kernel
theorem dX8_isOnAnother_49 : decode cX8_isOnAnother 49 = .ok (.iconst 0, 1) := by decide +kernel
theorem dX8_isOnAnother_50 : decode cX8_isOnAnother 50 = .ok (.ireturn, 1) := by decide +kernel
theorem dX8_workOneTick_0 : decode cX8_workOneTick 0 = .ok (.iconst 0, 1) := by decide +kernel
theorem dX8_workOneTick_1 : decode cX8_workOneTick 1 = .ok (.istore_n 1, 1) := by decide +kernel
theorem dX8_workOneTick_2 : decode cX8_workOneTick 2 = .ok (.iconst 0, 1) := by decide +kernel
theorem dX8_workOneTick_3 : decode cX8_workOneTick 3 = .ok (.istore_n 2, 1) := by decide +kernel
theorem dX8_workOneTick_4 : decode cX8_workOneTick 4 = .ok (.iload_n 2, 1) := by decide +kernel
theorem dX8_workOneTick_5 : decode cX8_workOneTick 5 = .ok (.aload_n 0, 1) := by decide +kernel
theorem dX8_workOneTick_6 : decode cX8_workOneTick 6 = .ok (.getfield 22, 3) := by decide +kernel
theorem dX8_workOneTick_9 : decode cX8_workOneTick 9 = .ok (.invokevirtual 64, 3) := by decide +kernel
theorem dX8_workOneTick_12 : decode cX8_workOneTick 12 = .ok (.if_icmp .ge 39, 3) := by decide +kernel
theorem dX8_workOneTick_15 : decode cX8_workOneTick 15 = .ok (.aload_n 0, 1) := by decide +kernel
theorem dX8_workOneTick_16 : decode cX8_workOneTick 16 = .ok (.getfield 22, 3) := by decide +kernel
theorem dX8_workOneTick_19 : decode cX8_workOneTick 19 = .ok (.iload_n 2, 1) := by decide +kernel
theorem dX8_workOneTick_20 : decode cX8_workOneTick 20 = .ok (.invokevirtual 148, 3) := by decide +kernel
theorem dX8_workOneTick_23 : decode cX8_workOneTick 23 = .ok (.checkcast 39, 3) := by decide +kernel
theorem dX8_workOneTick_26 : decode cX8_workOneTick 26 = .ok (.invokevirtual 287, 3) := by decide +kernel
theorem dX8_workOneTick_29 : decode cX8_workOneTick 29 = .ok (.astore_n 3, 1) := by decide +kernel
theorem dX8_workOneTick_30 : decode cX8_workOneTick 30 = .ok (.aload_n 3, 1) := by decide +kernel
theorem dX8_workOneTick_31 : decode cX8_workOneTick 31 = .ok (.ifnull 14, 3) := by decide +kernel
theorem dX8_workOneTick_34 : decode cX8_workOneTick 34 = .ok (.aload_n 3, 1) := by decide +kernel
theorem dX8_workOneTick_35 : decode cX8_workOneTick 35 = .ok (.aload_n 0, 1) := by decide +kernel
theorem dX8_workOneTick_36 : decode cX8_workOneTick 36 = .ok (.getfield 35, 3) := by decide +kernel
theorem dX8_workOneTick_39 : decode cX8_workOneTick 39 = .ok (.invokevirtual 291, 3) := by decide +kernel
theorem dX8_workOneTick_42 : decode cX8_workOneTick 42 = .ok (.iinc 1 1, 3) := by decide +kernel
theorem dX8_workOneTick_45 : decode cX8_workOneTick 45 = .ok (.iinc 2 1, 3) := by decide +kernel
theorem dX8_workOneTick_48 : decode cX8_workOneTick 48 = .ok (.goto (-44), 3) := by decide +kernel
theorem dX8_workOneTick_51 : decode cX8_workOneTick 51 = .ok (.iload_n 1, 1) := by decide +kernel
theorem dX8_workOneTick_52 : decode cX8_workOneTick 52 = .ok (.ireturn, 1) := by decide +kernel
theorem dX8_teethWithoutCutter_0 : decode cX8_teethWithoutCutter 0 = .ok (.iconst 0, 1) := by decide +kernel
theorem dX8_teethWithoutCutter_1 : decode cX8_teethWithoutCutter 1 = .ok (.istore_n 2, 1) := by decide +kernel
theorem dX8_teethWithoutCutter_2 : decode cX8_teethWithoutCutter 2 = .ok (.bipush 8, 2) := by decide +kernel
theorem dX8_teethWithoutCutter_4 : decode cX8_teethWithoutCutter 4 = .ok (.istore_n 3, 1) := by decide +kernel
theorem dX8_teethWithoutCutter_5 : decode cX8_teethWithoutCutter 5 = .ok (.iload_n 3, 1) := by decide +kernel
theorem dX8_teethWithoutCutter_6 : decode cX8_teethWithoutCutter 6 = .ok (.bipush 20, 2) := by decide +kernel
theorem dX8_teethWithoutCutter_8 : decode cX8_teethWithoutCutter 8 = .ok (.if_icmp .gt 25, 3) := by decide +kernel
theorem dX8_teethWithoutCutter_11 : decode cX8_teethWithoutCutter 11 = .ok (.aload_n 0, 1) := by decide +kernel
theorem dX8_teethWithoutCutter_12 : decode cX8_teethWithoutCutter 12 = .ok (.iload_n 1, 1) := by decide +kernel
theorem dX8_teethWithoutCutter_13 : decode cX8_teethWithoutCutter 13 = .ok (.iload_n 3, 1) := by decide +kernel
theorem dX8_teethWithoutCutter_14 : decode cX8_teethWithoutCutter 14 = .ok (.invokevirtual 80, 3) := by decide +kernel
theorem dX8_teethWithoutCutter_17 : decode cX8_teethWithoutCutter 17 = .ok (.iconst (-1), 1) := by decide +kernel
theorem dX8_teethWithoutCutter_18 : decode cX8_teethWithoutCutter 18 = .ok (.if_icmp .ne 9, 3) := by decide +kernel
theorem dX8_teethWithoutCutter_21 : decode cX8_teethWithoutCutter 21 = .ok (.iload_n 2, 1) := by decide +kernel
theorem dX8_teethWithoutCutter_22 : decode cX8_teethWithoutCutter 22 = .ok (.iconst 1, 1) := by decide +kernel
theorem dX8_teethWithoutCutter_23 : decode cX8_teethWithoutCutter 23 = .ok (.iload_n 3, 1) := by decide +kernel
theorem dX8_teethWithoutCutter_24 : decode cX8_teethWithoutCutter 24 = .ok (.ishl, 1) := by decide +kernel
theorem dX8_teethWithoutCutter_25 : decode cX8_teethWithoutCutter 25 = .ok (.ior, 1) := by decide +kernel
theorem dX8_teethWithoutCutter_26 : decode cX8_teethWithoutCutter 26 = .ok (.istore_n 2, 1) := by decide +kernel
theorem dX8_teethWithoutCutter_27 : decode cX8_teethWithoutCutter 27 = .ok (.iinc 3 1, 3) := by decide +kernel
theorem dX8_teethWithoutCutter_30 : decode cX8_teethWithoutCutter 30 = .ok (.goto (-25), 3) := by decide +kernel
theorem dX8_teethWithoutCutter_33 : decode cX8_teethWithoutCutter 33 = .ok (.iload_n 2, 1) := by decide +kernel
theorem dX8_teethWithoutCutter_34 : decode cX8_teethWithoutCutter 34 = .ok (.ireturn, 1) := by decide +kernel
theorem dX8_leastWithDrivers_0 : decode cX8_leastWithDrivers 0 = .ok (.iconst (-1), 1) := by decide +kernel
theorem dX8_leastWithDrivers_1 : decode cX8_leastWithDrivers 1 = .ok (.istore_n 3, 1) := by decide +kernel
theorem dX8_leastWithDrivers_2 : decode cX8_leastWithDrivers 2 = .ok (.bipush 8, 2) := by decide +kernel
theorem dX8_leastWithDrivers_4 : decode cX8_leastWithDrivers 4 = .ok (.istore 4, 2) := by decide +kernel
theorem dX8_leastWithDrivers_6 : decode cX8_leastWithDrivers 6 = .ok (.iload 4, 2) := by decide +kernel
theorem dX8_leastWithDrivers_8 : decode cX8_leastWithDrivers 8 = .ok (.bipush 20, 2) := by decide +kernel
theorem dX8_leastWithDrivers_10 : decode cX8_leastWithDrivers 10 = .ok (.if_icmp .gt 61, 3) := by decide +kernel
theorem dX8_leastWithDrivers_13 : decode cX8_leastWithDrivers 13 = .ok (.iload_n 1, 1) := by decide +kernel
theorem dX8_leastWithDrivers_14 : decode cX8_leastWithDrivers 14 = .ok (.iload 4, 2) := by decide +kernel
theorem dX8_leastWithDrivers_16 : decode cX8_leastWithDrivers 16 = .ok (.idiv, 1) := by decide +kernel
theorem dX8_leastWithDrivers_17 : decode cX8_leastWithDrivers 17 = .ok (.istore 5, 2) := by decide +kernel
theorem dX8_leastWithDrivers_19 : decode cX8_leastWithDrivers 19 = .ok (.iload 5, 2) := by decide +kernel
theorem dX8_leastWithDrivers_21 : decode cX8_leastWithDrivers 21 = .ok (.iload 4, 2) := by decide +kernel
theorem dX8_leastWithDrivers_23 : decode cX8_leastWithDrivers 23 = .ok (.imul, 1) := by decide +kernel
theorem dX8_leastWithDrivers_24 : decode cX8_leastWithDrivers 24 = .ok (.iload_n 1, 1) := by decide +kernel
theorem dX8_leastWithDrivers_25 : decode cX8_leastWithDrivers 25 = .ok (.if_icmp .ne 40, 3) := by decide +kernel
theorem dX8_leastWithDrivers_28 : decode cX8_leastWithDrivers 28 = .ok (.iload 5, 2) := by decide +kernel
theorem dX8_leastWithDrivers_30 : decode cX8_leastWithDrivers 30 = .ok (.iload 4, 2) := by decide +kernel
theorem dX8_leastWithDrivers_32 : decode cX8_leastWithDrivers 32 = .ok (.bipush 20, 2) := by decide +kernel
theorem dX8_leastWithDrivers_34 : decode cX8_leastWithDrivers 34 = .ok (.invokestatic 53, 3) := by decide +kernel
theorem dX8_leastWithDrivers_37 : decode cX8_leastWithDrivers 37 = .ok (.ifCond .ne 28, 3) := by decide +kernel
theorem dX8_leastWithDrivers_40 : decode cX8_leastWithDrivers 40 = .ok (.iload_n 0, 1) := by decide +kernel
theorem dX8_leastWithDrivers_41 : decode cX8_leastWithDrivers 41 = .ok (.iconst 1, 1) := by decide +kernel
theorem dX8_leastWithDrivers_42 : decode cX8_leastWithDrivers 42 = .ok (.iload 4, 2) := by decide +kernel
theorem dX8_leastWithDrivers_44 : decode cX8_leastWithDrivers 44 = .ok (.ishl, 1) := by decide +kernel
theorem dX8_leastWithDrivers_45 : decode cX8_leastWithDrivers 45 = .ok (.ior, 1) := by decide +kernel
theorem dX8_leastWithDrivers_46 : decode cX8_leastWithDrivers 46 = .ok (.iconst 1, 1) := by decide +kernel
theorem dX8_leastWithDrivers_47 : decode cX8_leastWithDrivers 47 = .ok (.iload 5, 2) := by decide +kernel
theorem dX8_leastWithDrivers_49 : decode cX8_leastWithDrivers 49 = .ok (.ishl, 1) := by decide +kernel
theorem dX8_leastWithDrivers_50 : decode cX8_leastWithDrivers 50 = .ok (.ior, 1) := by decide +kernel
theorem dX8_leastWithDrivers_51 : decode cX8_leastWithDrivers 51 = .ok (.istore 6, 2) := by decide +kernel
theorem dX8_leastWithDrivers_53 : decode cX8_leastWithDrivers 53 = .ok (.iload_n 3, 1) := by decide +kernel
theorem dX8_leastWithDrivers_54 : decode cX8_leastWithDrivers 54 = .ok (.iload 6, 2) := by decide +kernel
theorem dX8_leastWithDrivers_56 : decode cX8_leastWithDrivers 56 = .ok (.iload_n 2, 1) := by decide +kernel
theorem dX8_leastWithDrivers_57 : decode cX8_leastWithDrivers 57 = .ok (.iand, 1) := by decide +kernel
theorem dX8_leastWithDrivers_58 : decode cX8_leastWithDrivers 58 = .ok (.invokestatic 294, 3) := by decide +kernel
theorem dX8_leastWithDrivers_61 : decode cX8_leastWithDrivers 61 = .ok (.invokestatic 240, 3) := by decide +kernel
theorem dX8_leastWithDrivers_64 : decode cX8_leastWithDrivers 64 = .ok (.istore_n 3, 1) := by decide +kernel
theorem dX8_leastWithDrivers_65 : decode cX8_leastWithDrivers 65 = .ok (.iinc 4 1, 3) := by decide +kernel
theorem dX8_leastWithDrivers_68 : decode cX8_leastWithDrivers 68 = .ok (.goto (-62), 3) := by decide +kernel
theorem dX8_leastWithDrivers_71 : decode cX8_leastWithDrivers 71 = .ok (.iload_n 3, 1) := by decide +kernel
theorem dX8_leastWithDrivers_72 : decode cX8_leastWithDrivers 72 = .ok (.ireturn, 1) := by decide +kernel
theorem dX8_lesser_0 : decode cX8_lesser 0 = .ok (.iload_n 0, 1) := by decide +kernel
theorem dX8_lesser_1 : decode cX8_lesser 1 = .ok (.iconst (-1), 1) := by decide +kernel
theorem dX8_lesser_2 : decode cX8_lesser 2 = .ok (.if_icmp .ne 5, 3) := by decide +kernel
theorem dX8_lesser_5 : decode cX8_lesser 5 = .ok (.iload_n 1, 1) := by decide +kernel
theorem dX8_lesser_6 : decode cX8_lesser 6 = .ok (.ireturn, 1) := by decide +kernel
theorem dX8_lesser_7 : decode cX8_lesser 7 = .ok (.iload_n 1, 1) := by decide +kernel
theorem dX8_lesser_8 : decode cX8_lesser 8 = .ok (.iconst (-1), 1) := by decide +kernel
theorem dX8_lesser_9 : decode cX8_lesser 9 = .ok (.if_icmp .ne 7, 3) := by decide +kernel
theorem dX8_lesser_12 : decode cX8_lesser 12 = .ok (.iload_n 0, 1) := by decide +kernel
theorem dX8_lesser_13 : decode cX8_lesser 13 = .ok (.goto 8, 3) := by decide +kernel
theorem dX8_lesser_16 : decode cX8_lesser 16 = .ok (.iload_n 0, 1) := by decide +kernel
theorem dX8_lesser_17 : decode cX8_lesser 17 = .ok (.iload_n 1, 1) := by decide +kernel
theorem dX8_lesser_18 : decode cX8_lesser 18 = .ok (.invokestatic 299, 3) := by decide +kernel
theorem dX8_lesser_21 : decode cX8_lesser 21 = .ok (.ireturn, 1) := by decide +kernel
theorem dX8_commonDivisor_0 : decode cX8_commonDivisor 0 = .ok (.lload_n 0, 1) := by decide +kernel
theorem dX8_commonDivisor_1 : decode cX8_commonDivisor 1 = .ok (.lstore 4, 2) := by decide +kernel
theorem dX8_commonDivisor_3 : decode cX8_commonDivisor 3 = .ok (.lload_n 2, 1) := by decide +kernel
theorem dX8_commonDivisor_4 : decode cX8_commonDivisor 4 = .ok (.lstore 6, 2) := by decide +kernel
theorem dX8_commonDivisor_6 : decode cX8_commonDivisor 6 = .ok (.iconst 0, 1) := by decide +kernel
theorem dX8_commonDivisor_7 : decode cX8_commonDivisor 7 = .ok (.istore 8, 2) := by decide +kernel
theorem dX8_commonDivisor_9 : decode cX8_commonDivisor 9 = .ok (.iload 8, 2) := by decide +kernel
theorem dX8_commonDivisor_11 : decode cX8_commonDivisor 11 = .ok (.bipush 100, 2) := by decide +kernel
theorem dX8_commonDivisor_13 : decode cX8_commonDivisor 13 = .ok (.if_icmp .ge 31, 3) := by decide +kernel
theorem dX8_commonDivisor_16 : decode cX8_commonDivisor 16 = .ok (.lload 6, 2) := by decide +kernel
theorem dX8_commonDivisor_18 : decode cX8_commonDivisor 18 = .ok (.lconst 0, 1) := by decide +kernel
theorem dX8_commonDivisor_19 : decode cX8_commonDivisor 19 = .ok (.lcmp, 1) := by decide +kernel
theorem dX8_commonDivisor_20 : decode cX8_commonDivisor 20 = .ok (.ifCond .eq 24, 3) := by decide +kernel
theorem dX8_commonDivisor_23 : decode cX8_commonDivisor 23 = .ok (.lload 4, 2) := by decide +kernel
theorem dX8_commonDivisor_25 : decode cX8_commonDivisor 25 = .ok (.lload 6, 2) := by decide +kernel
theorem dX8_commonDivisor_27 : decode cX8_commonDivisor 27 = .ok (.lrem, 1) := by decide +kernel
theorem dX8_commonDivisor_28 : decode cX8_commonDivisor 28 = .ok (.lstore 9, 2) := by decide +kernel
theorem dX8_commonDivisor_30 : decode cX8_commonDivisor 30 = .ok (.lload 6, 2) := by decide +kernel
theorem dX8_commonDivisor_32 : decode cX8_commonDivisor 32 = .ok (.lstore 4, 2) := by decide +kernel
theorem dX8_commonDivisor_34 : decode cX8_commonDivisor 34 = .ok (.lload 9, 2) := by decide +kernel
theorem dX8_commonDivisor_36 : decode cX8_commonDivisor 36 = .ok (.lstore 6, 2) := by decide +kernel
theorem dX8_commonDivisor_38 : decode cX8_commonDivisor 38 = .ok (.iinc 8 1, 3) := by decide +kernel
theorem dX8_commonDivisor_41 : decode cX8_commonDivisor 41 = .ok (.goto (-32), 3) := by decide +kernel
theorem dX8_commonDivisor_44 : decode cX8_commonDivisor 44 = .ok (.lload 4, 2) := by decide +kernel
theorem dX8_commonDivisor_46 : decode cX8_commonDivisor 46 = .ok (.lreturn, 1) := by decide +kernel
theorem dX9_init_0 : decode cX9_init 0 = .ok (.aload_n 0, 1) := by decide +kernel
theorem dX9_init_1 : decode cX9_init 1 = .ok (.invokespecial 1, 3) := by decide +kernel
theorem dX9_init_4 : decode cX9_init 4 = .ok (.aload_n 0, 1) := by decide +kernel
theorem dX9_init_5 : decode cX9_init 5 = .ok (.bipush 10, 2) := by decide +kernel
theorem dX9_init_7 : decode cX9_init 7 = .ok (.newarray .int, 2) := by decide +kernel
theorem dX9_init_9 : decode cX9_init 9 = .ok (.putfield 7, 3) := by decide +kernel
theorem dX9_init_12 : decode cX9_init 12 = .ok (.aload_n 0, 1) := by decide +kernel
theorem dX9_init_13 : decode cX9_init 13 = .ok (.bipush 10, 2) := by decide +kernel
theorem dX9_init_15 : decode cX9_init 15 = .ok (.newarray .int, 2) := by decide +kernel
theorem dX9_init_17 : decode cX9_init 17 = .ok (.putfield 13, 3) := by decide +kernel
theorem dX9_init_20 : decode cX9_init 20 = .ok (.aload_n 0, 1) := by decide +kernel
theorem dX9_init_21 : decode cX9_init 21 = .ok (.bipush 10, 2) := by decide +kernel
theorem dX9_init_23 : decode cX9_init 23 = .ok (.newarray .int, 2) := by decide +kernel
theorem dX9_init_25 : decode cX9_init 25 = .ok (.putfield 16, 3) := by decide +kernel
theorem dX9_init_28 : decode cX9_init 28 = .ok (.aload_n 0, 1) := by decide +kernel
theorem dX9_init_29 : decode cX9_init 29 = .ok (.bipush 12, 2) := by decide +kernel
theorem dX9_init_31 : decode cX9_init 31 = .ok (.newarray .int, 2) := by decide +kernel
theorem dX9_init_33 : decode cX9_init 33 = .ok (.putfield 19, 3) := by decide +kernel
theorem dX9_init_36 : decode cX9_init 36 = .ok (.aload_n 0, 1) := by decide +kernel
theorem dX9_init_37 : decode cX9_init 37 = .ok (.bipush 8, 2) := by decide +kernel
theorem dX9_init_39 : decode cX9_init 39 = .ok (.newarray .int, 2) := by decide +kernel
theorem dX9_init_41 : decode cX9_init 41 = .ok (.putfield 22, 3) := by decide +kernel
theorem dX9_init_44 : decode cX9_init 44 = .ok (.aload_n 0, 1) := by decide +kernel
theorem dX9_init_45 : decode cX9_init 45 = .ok (.bipush 96, 2) := by decide +kernel
theorem dX9_init_47 : decode cX9_init 47 = .ok (.newarray .int, 2) := by decide +kernel
theorem dX9_init_49 : decode cX9_init 49 = .ok (.putfield 25, 3) := by decide +kernel
theorem dX9_init_52 : decode cX9_init 52 = .ok (.aload_n 0, 1) := by decide +kernel
theorem dX9_init_53 : decode cX9_init 53 = .ok (.bipush 8, 2) := by decide +kernel
theorem dX9_init_55 : decode cX9_init 55 = .ok (.newarray .int, 2) := by decide +kernel
theorem dX9_init_57 : decode cX9_init 57 = .ok (.putfield 28, 3) := by decide +kernel
theorem dX9_init_60 : decode cX9_init 60 = .ok (.aload_n 0, 1) := by decide +kernel
theorem dX9_init_61 : decode cX9_init 61 = .ok (.bipush 12, 2) := by decide +kernel
theorem dX9_init_63 : decode cX9_init 63 = .ok (.newarray .int, 2) := by decide +kernel
theorem dX9_init_65 : decode cX9_init 65 = .ok (.putfield 31, 3) := by decide +kernel
theorem dX9_init_68 : decode cX9_init 68 = .ok (.aload_n 0, 1) := by decide +kernel
theorem dX9_init_69 : decode cX9_init 69 = .ok (.bipush 12, 2) := by decide +kernel
theorem dX9_init_71 : decode cX9_init 71 = .ok (.newarray .int, 2) := by decide +kernel
theorem dX9_init_73 : decode cX9_init 73 = .ok (.putfield 34, 3) := by decide +kernel
theorem dX9_init_76 : decode cX9_init 76 = .ok (.aload_n 0, 1) := by decide +kernel
theorem dX9_init_77 : decode cX9_init 77 = .ok (.bipush 12, 2) := by decide +kernel
theorem dX9_init_79 : decode cX9_init 79 = .ok (.newarray .boolean, 2) := by decide +kernel
theorem dX9_init_81 : decode cX9_init 81 = .ok (.putfield 37, 3) := by decide +kernel
theorem dX9_init_84 : decode cX9_init 84 = .ok (.aload_n 0, 1) := by decide +kernel
theorem dX9_init_85 : decode cX9_init 85 = .ok (.bipush 48, 2) := by decide +kernel
theorem dX9_init_87 : decode cX9_init 87 = .ok (.newarray .int, 2) := by decide +kernel
theorem dX9_init_89 : decode cX9_init 89 = .ok (.putfield 41, 3) := by decide +kernel
theorem dX9_init_92 : decode cX9_init 92 = .ok (.aload_n 0, 1) := by decide +kernel
theorem dX9_init_93 : decode cX9_init 93 = .ok (.bipush 96, 2) := by decide +kernel
theorem dX9_init_95 : decode cX9_init 95 = .ok (.newarray .int, 2) := by decide +kernel
theorem dX9_init_97 : decode cX9_init 97 = .ok (.putfield 44, 3) := by decide +kernel
theorem dX9_init_100 : decode cX9_init 100 = .ok (.aload_n 0, 1) := by decide +kernel
theorem dX9_init_101 : decode cX9_init 101 = .ok (.bipush 96, 2) := by decide +kernel
theorem dX9_init_103 : decode cX9_init 103 = .ok (.newarray .int, 2) := by decide +kernel
theorem dX9_init_105 : decode cX9_init 105 = .ok (.putfield 47, 3) := by decide +kernel
theorem dX9_init_108 : decode cX9_init 108 = .ok (.aload_n 0, 1) := by decide +kernel
theorem dX9_init_109 : decode cX9_init 109 = .ok (.bipush 96, 2) := by decide +kernel
theorem dX9_init_111 : decode cX9_init 111 = .ok (.newarray .int, 2) := by decide +kernel
theorem dX9_init_113 : decode cX9_init 113 = .ok (.putfield 50, 3) := by decide +kernel
theorem dX9_init_116 : decode cX9_init 116 = .ok (.aload_n 0, 1) := by decide +kernel
theorem dX9_init_117 : decode cX9_init 117 = .ok (.bipush 96, 2) := by decide +kernel
theorem dX9_init_119 : decode cX9_init 119 = .ok (.newarray .int, 2) := by decide +kernel
theorem dX9_init_121 : decode cX9_init 121 = .ok (.putfield 53, 3) := by decide +kernel
theorem dX9_init_124 : decode cX9_init 124 = .ok (.aload_n 0, 1) := by decide +kernel
theorem dX9_init_125 : decode cX9_init 125 = .ok (.iconst 3, 1) := by decide +kernel
theorem dX9_init_126 : decode cX9_init 126 = .ok (.newarray .int, 2) := by decide +kernel
theorem dX9_init_128 : decode cX9_init 128 = .ok (.putfield 56, 3) := by decide +kernel
theorem dX9_init_131 : decode cX9_init 131 = .ok (.aload_n 0, 1) := by decide +kernel
theorem dX9_init_132 : decode cX9_init 132 = .ok (.iconst 3, 1) := by decide +kernel
theorem dX9_init_133 : decode cX9_init 133 = .ok (.newarray .int, 2) := by decide +kernel
theorem dX9_init_135 : decode cX9_init 135 = .ok (.putfield 59, 3) := by decide +kernel
theorem dX9_init_138 : decode cX9_init 138 = .ok (.aload_n 0, 1) := by decide +kernel
theorem dX9_init_139 : decode cX9_init 139 = .ok (.iconst 3, 1) := by decide +kernel
theorem dX9_init_140 : decode cX9_init 140 = .ok (.newarray .int, 2) := by decide +kernel
theorem dX9_init_142 : decode cX9_init 142 = .ok (.putfield 62, 3) := by decide +kernel
theorem dX9_init_145 : decode cX9_init 145 = .ok (.iconst 0, 1) := by decide +kernel
theorem dX9_init_146 : decode cX9_init 146 = .ok (.istore_n 1, 1) := by decide +kernel
theorem dX9_init_147 : decode cX9_init 147 = .ok (.iload_n 1, 1) := by decide +kernel
theorem dX9_init_148 : decode cX9_init 148 = .ok (.iconst 3, 1) := by decide +kernel
theorem dX9_init_149 : decode cX9_init 149 = .ok (.if_icmp .ge 23, 3) := by decide +kernel
theorem dX9_init_152 : decode cX9_init 152 = .ok (.aload_n 0, 1) := by decide +kernel
theorem dX9_init_153 : decode cX9_init 153 = .ok (.getfield 56, 3) := by decide +kernel
theorem dX9_init_156 : decode cX9_init 156 = .ok (.iload_n 1, 1) := by decide +kernel
theorem dX9_init_157 : decode cX9_init 157 = .ok (.iconst (-1), 1) := by decide +kernel
theorem dX9_init_158 : decode cX9_init 158 = .ok (.iastore, 1) := by decide +kernel
theorem dX9_init_159 : decode cX9_init 159 = .ok (.aload_n 0, 1) := by decide +kernel
theorem dX9_init_160 : decode cX9_init 160 = .ok (.getfield 59, 3) := by decide +kernel
theorem dX9_init_163 : decode cX9_init 163 = .ok (.iload_n 1, 1) := by decide +kernel
theorem dX9_init_164 : decode cX9_init 164 = .ok (.iconst (-1), 1) := by decide +kernel
theorem dX9_init_165 : decode cX9_init 165 = .ok (.iastore, 1) := by decide +kernel
theorem dX9_init_166 : decode cX9_init 166 = .ok (.iinc 1 1, 3) := by decide +kernel
theorem dX9_init_169 : decode cX9_init 169 = .ok (.goto (-22), 3) := by decide +kernel
theorem dX9_init_172 : decode cX9_init 172 = .ok (.return_, 1) := by decide +kernel
theorem dX9_thrown_0 : decode cX9_thrown 0 = .ok (.aload_n 0, 1) := by decide +kernel
theorem dX9_thrown_1 : decode cX9_thrown 1 = .ok (.getfield 65, 3) := by decide +kernel
theorem dX9_thrown_4 : decode cX9_thrown 4 = .ok (.ireturn, 1) := by decide +kernel
theorem dX9_in_0 : decode cX9_in 0 = .ok (.iload_n 0, 1) := by decide +kernel
theorem dX9_in_1 : decode cX9_in 1 = .ok (.iload_n 1, 1) := by decide +kernel
theorem dX9_in_2 : decode cX9_in 2 = .ok (.if_icmp .lt 12, 3) := by decide +kernel
theorem dX9_in_5 : decode cX9_in 5 = .ok (.iload_n 0, 1) := by decide +kernel
theorem dX9_in_6 : decode cX9_in 6 = .ok (.iload_n 2, 1) := by decide +kernel
theorem dX9_in_7 : decode cX9_in 7 = .ok (.if_icmp .gt 7, 3) := by decide +kernel
theorem dX9_in_10 : decode cX9_in 10 = .ok (.iconst 1, 1) := by decide +kernel
theorem dX9_in_11 : decode cX9_in 11 = .ok (.goto 4, 3) := by decide +kernel
theorem dX9_in_14 : decode cX9_in 14 = .ok (.iconst 0, 1) := by decide +kernel
theorem dX9_in_15 : decode cX9_in 15 = .ok (.ireturn, 1) := by decide +kernel
theorem dX9_isTrain_0 : decode cX9_isTrain 0 = .ok (.aload_n 0, 1) := by decide +kernel
theorem dX9_isTrain_1 : decode cX9_isTrain 1 = .ok (.iload_n 1, 1) := by decide +kernel
theorem dX9_isTrain_2 : decode cX9_isTrain 2 = .ok (.iconst 0, 1) := by decide +kernel
theorem dX9_isTrain_3 : decode cX9_isTrain 3 = .ok (.aload_n 0, 1) := by decide +kernel
theorem dX9_isTrain_4 : decode cX9_isTrain 4 = .ok (.getfield 69, 3) := by decide +kernel
theorem dX9_isTrain_7 : decode cX9_isTrain 7 = .ok (.iconst 1, 1) := by decide +kernel
theorem dX9_isTrain_8 : decode cX9_isTrain 8 = .ok (.isub, 1) := by decide +kernel
theorem dX9_isTrain_9 : decode cX9_isTrain 9 = .ok (.invokestatic 72, 3) := by decide +kernel
theorem dX9_isTrain_12 : decode cX9_isTrain 12 = .ok (.ifCond .eq 7, 3) := by decide +kernel
theorem dX9_isTrain_15 : decode cX9_isTrain 15 = .ok (.iconst 0, 1) := by decide +kernel
theorem dX9_isTrain_16 : decode cX9_isTrain 16 = .ok (.goto 4, 3) := by decide +kernel
theorem dX9_isTrain_19 : decode cX9_isTrain 19 = .ok (.iconst 1, 1) := by decide +kernel
theorem dX9_isTrain_20 : decode cX9_isTrain 20 = .ok (.putfield 65, 3) := by decide +kernel
theorem dX9_isTrain_23 : decode cX9_isTrain 23 = .ok (.aload_n 0, 1) := by decide +kernel
theorem dX9_isTrain_24 : decode cX9_isTrain 24 = .ok (.getfield 65, 3) := by decide +kernel
theorem dX9_isTrain_27 : decode cX9_isTrain 27 = .ok (.ifCond .ne 7, 3) := by decide +kernel
theorem dX9_isTrain_30 : decode cX9_isTrain 30 = .ok (.iconst 1, 1) := by decide +kernel
theorem dX9_isTrain_31 : decode cX9_isTrain 31 = .ok (.goto 4, 3) := by decide +kernel
theorem dX9_isTrain_34 : decode cX9_isTrain 34 = .ok (.iconst 0, 1) := by decide +kernel
theorem dX9_isTrain_35 : decode cX9_isTrain 35 = .ok (.ireturn, 1) := by decide +kernel
theorem dX9_isOrder_0 : decode cX9_isOrder 0 = .ok (.aload_n 0, 1) := by decide +kernel
theorem dX9_isOrder_1 : decode cX9_isOrder 1 = .ok (.iload_n 1, 1) := by decide +kernel
theorem dX9_isOrder_2 : decode cX9_isOrder 2 = .ok (.iconst 0, 1) := by decide +kernel
theorem dX9_isOrder_3 : decode cX9_isOrder 3 = .ok (.aload_n 0, 1) := by decide +kernel
theorem dX9_isOrder_4 : decode cX9_isOrder 4 = .ok (.getfield 76, 3) := by decide +kernel
theorem dX9_isOrder_7 : decode cX9_isOrder 7 = .ok (.iconst 1, 1) := by decide +kernel
theorem dX9_isOrder_8 : decode cX9_isOrder 8 = .ok (.isub, 1) := by decide +kernel
theorem dX9_isOrder_9 : decode cX9_isOrder 9 = .ok (.invokestatic 72, 3) := by decide +kernel
theorem dX9_isOrder_12 : decode cX9_isOrder 12 = .ok (.ifCond .eq 7, 3) := by decide +kernel
theorem dX9_isOrder_15 : decode cX9_isOrder 15 = .ok (.iconst 0, 1) := by decide +kernel
theorem dX9_isOrder_16 : decode cX9_isOrder 16 = .ok (.goto 4, 3) := by decide +kernel
theorem dX9_isOrder_19 : decode cX9_isOrder 19 = .ok (.iconst 1, 1) := by decide +kernel
theorem dX9_isOrder_20 : decode cX9_isOrder 20 = .ok (.putfield 65, 3) := by decide +kernel
theorem dX9_isOrder_23 : decode cX9_isOrder 23 = .ok (.aload_n 0, 1) := by decide +kernel
theorem dX9_isOrder_24 : decode cX9_isOrder 24 = .ok (.getfield 65, 3) := by decide +kernel
theorem dX9_isOrder_27 : decode cX9_isOrder 27 = .ok (.ifCond .ne 7, 3) := by decide +kernel
theorem dX9_isOrder_30 : decode cX9_isOrder 30 = .ok (.iconst 1, 1) := by decide +kernel
theorem dX9_isOrder_31 : decode cX9_isOrder 31 = .ok (.goto 4, 3) := by decide +kernel
theorem dX9_isOrder_34 : decode cX9_isOrder 34 = .ok (.iconst 0, 1) := by decide +kernel
theorem dX9_isOrder_35 : decode cX9_isOrder 35 = .ok (.ireturn, 1) := by decide +kernel
theorem dX9_isMachine_0 : decode cX9_isMachine 0 = .ok (.aload_n 0, 1) := by decide +kernel
theorem dX9_isMachine_1 : decode cX9_isMachine 1 = .ok (.iload_n 1, 1) := by decide +kernel
theorem dX9_isMachine_2 : decode cX9_isMachine 2 = .ok (.iconst 0, 1) := by decide +kernel
theorem dX9_isMachine_3 : decode cX9_isMachine 3 = .ok (.iconst 2, 1) := by decide +kernel
theorem dX9_isMachine_4 : decode cX9_isMachine 4 = .ok (.invokestatic 72, 3) := by decide +kernel
theorem dX9_isMachine_7 : decode cX9_isMachine 7 = .ok (.ifCond .eq 7, 3) := by decide +kernel
theorem dX9_isMachine_10 : decode cX9_isMachine 10 = .ok (.iconst 0, 1) := by decide +kernel
theorem dX9_isMachine_11 : decode cX9_isMachine 11 = .ok (.goto 4, 3) := by decide +kernel
theorem dX9_isMachine_14 : decode cX9_isMachine 14 = .ok (.iconst 1, 1) := by decide +kernel
theorem dX9_isMachine_15 : decode cX9_isMachine 15 = .ok (.putfield 65, 3) := by decide +kernel
theorem dX9_isMachine_18 : decode cX9_isMachine 18 = .ok (.aload_n 0, 1) := by decide +kernel
theorem dX9_isMachine_19 : decode cX9_isMachine 19 = .ok (.getfield 65, 3) := by decide +kernel
theorem dX9_isMachine_22 : decode cX9_isMachine 22 = .ok (.ifCond .ne 7, 3) := by decide +kernel
theorem dX9_isMachine_25 : decode cX9_isMachine 25 = .ok (.iconst 1, 1) := by decide +kernel
theorem dX9_isMachine_26 : decode cX9_isMachine 26 = .ok (.goto 4, 3) := by decide +kernel
theorem dX9_isMachine_29 : decode cX9_isMachine 29 = .ok (.iconst 0, 1) := by decide +kernel
theorem dX9_isMachine_30 : decode cX9_isMachine 30 = .ok (.ireturn, 1) := by decide +kernel
theorem dX9_addCutter_0 : decode cX9_addCutter 0 = .ok (.iload_n 1, 1) := by decide +kernel
theorem dX9_addCutter_1 : decode cX9_addCutter 1 = .ok (.iconst 1, 1) := by decide +kernel
theorem dX9_addCutter_2 : decode cX9_addCutter 2 = .ok (.iconst 4, 1) := by decide +kernel
theorem dX9_addCutter_3 : decode cX9_addCutter 3 = .ok (.invokestatic 72, 3) := by decide +kernel
theorem dX9_addCutter_6 : decode cX9_addCutter 6 = .ok (.ifCond .eq 28, 3) := by decide +kernel
theorem dX9_addCutter_9 : decode cX9_addCutter 9 = .ok (.iload_n 2, 1) := by decide +kernel
theorem dX9_addCutter_10 : decode cX9_addCutter 10 = .ok (.bipush 8, 2) := by decide +kernel
theorem dX9_addCutter_12 : decode cX9_addCutter 12 = .ok (.bipush 60, 2) := by decide +kernel
theorem dX9_addCutter_14 : decode cX9_addCutter 14 = .ok (.invokestatic 72, 3) := by decide +kernel
theorem dX9_addCutter_17 : decode cX9_addCutter 17 = .ok (.ifCond .eq 17, 3) := by decide +kernel
theorem dX9_addCutter_20 : decode cX9_addCutter 20 = .ok (.iload_n 3, 1) := by decide +kernel
theorem dX9_addCutter_21 : decode cX9_addCutter 21 = .ok (.iload_n 2, 1) := by decide +kernel
theorem dX9_addCutter_22 : decode cX9_addCutter 22 = .ok (.bipush 60, 2) := by decide +kernel
theorem dX9_addCutter_24 : decode cX9_addCutter 24 = .ok (.invokestatic 72, 3) := by decide +kernel
theorem dX9_addCutter_27 : decode cX9_addCutter 27 = .ok (.ifCond .eq 7, 3) := by decide +kernel
theorem dX9_addCutter_30 : decode cX9_addCutter 30 = .ok (.iconst 1, 1) := by decide +kernel
theorem dX9_addCutter_31 : decode cX9_addCutter 31 = .ok (.goto 4, 3) := by decide +kernel
theorem dX9_addCutter_34 : decode cX9_addCutter 34 = .ok (.iconst 0, 1) := by decide +kernel
theorem dX9_addCutter_35 : decode cX9_addCutter 35 = .ok (.istore 4, 2) := by decide +kernel
theorem dX9_addCutter_37 : decode cX9_addCutter 37 = .ok (.aload_n 0, 1) := by decide +kernel
theorem dX9_addCutter_38 : decode cX9_addCutter 38 = .ok (.iload 4, 2) := by decide +kernel
theorem dX9_addCutter_40 : decode cX9_addCutter 40 = .ok (.ifCond .ne 7, 3) := by decide +kernel
theorem dX9_addCutter_43 : decode cX9_addCutter 43 = .ok (.iconst 1, 1) := by decide +kernel
theorem dX9_addCutter_44 : decode cX9_addCutter 44 = .ok (.goto 17, 3) := by decide +kernel
theorem dX9_addCutter_47 : decode cX9_addCutter 47 = .ok (.aload_n 0, 1) := by decide +kernel
theorem dX9_addCutter_48 : decode cX9_addCutter 48 = .ok (.getfield 79, 3) := by decide +kernel
theorem dX9_addCutter_51 : decode cX9_addCutter 51 = .ok (.bipush 10, 2) := by decide +kernel
theorem dX9_addCutter_53 : decode cX9_addCutter 53 = .ok (.if_icmp .ne 7, 3) := by decide +kernel
theorem dX9_addCutter_56 : decode cX9_addCutter 56 = .ok (.iconst 2, 1) := by decide +kernel
theorem dX9_addCutter_57 : decode cX9_addCutter 57 = .ok (.goto 4, 3) := by decide +kernel
theorem dX9_addCutter_60 : decode cX9_addCutter 60 = .ok (.iconst 0, 1) := by decide +kernel
theorem dX9_addCutter_61 : decode cX9_addCutter 61 = .ok (.putfield 65, 3) := by decide +kernel
theorem dX9_addCutter_64 : decode cX9_addCutter 64 = .ok (.aload_n 0, 1) := by decide +kernel
theorem dX9_addCutter_65 : decode cX9_addCutter 65 = .ok (.getfield 65, 3) := by decide +kernel
theorem dX9_addCutter_68 : decode cX9_addCutter 68 = .ok (.ifCond .le 5, 3) := by decide +kernel
theorem dX9_addCutter_71 : decode cX9_addCutter 71 = .ok (.iconst 0, 1) := by decide +kernel
theorem dX9_addCutter_72 : decode cX9_addCutter 72 = .ok (.ireturn, 1) := by decide +kernel
theorem dX9_addCutter_73 : decode cX9_addCutter 73 = .ok (.aload_n 0, 1) := by decide +kernel
theorem dX9_addCutter_74 : decode cX9_addCutter 74 = .ok (.getfield 7, 3) := by decide +kernel
theorem dX9_addCutter_77 : decode cX9_addCutter 77 = .ok (.aload_n 0, 1) := by decide +kernel
theorem dX9_addCutter_78 : decode cX9_addCutter 78 = .ok (.getfield 79, 3) := by decide +kernel
theorem dX9_addCutter_81 : decode cX9_addCutter 81 = .ok (.iload_n 1, 1) := by decide +kernel
theorem dX9_addCutter_82 : decode cX9_addCutter 82 = .ok (.iastore, 1) := by decide +kernel
theorem dX9_addCutter_83 : decode cX9_addCutter 83 = .ok (.aload_n 0, 1) := by decide +kernel
theorem dX9_addCutter_84 : decode cX9_addCutter 84 = .ok (.getfield 13, 3) := by decide +kernel
theorem dX9_addCutter_87 : decode cX9_addCutter 87 = .ok (.aload_n 0, 1) := by decide +kernel
theorem dX9_addCutter_88 : decode cX9_addCutter 88 = .ok (.getfield 79, 3) := by decide +kernel
theorem dX9_addCutter_91 : decode cX9_addCutter 91 = .ok (.iload_n 2, 1) := by decide +kernel
theorem dX9_addCutter_92 : decode cX9_addCutter 92 = .ok (.iastore, 1) := by decide +kernel
theorem dX9_addCutter_93 : decode cX9_addCutter 93 = .ok (.aload_n 0, 1) := by decide +kernel
theorem dX9_addCutter_94 : decode cX9_addCutter 94 = .ok (.getfield 16, 3) := by decide +kernel
theorem dX9_addCutter_97 : decode cX9_addCutter 97 = .ok (.aload_n 0, 1) := by decide +kernel
theorem dX9_addCutter_98 : decode cX9_addCutter 98 = .ok (.getfield 79, 3) := by decide +kernel
theorem dX9_addCutter_101 : decode cX9_addCutter 101 = .ok (.iload_n 3, 1) := by decide +kernel
theorem dX9_addCutter_102 : decode cX9_addCutter 102 = .ok (.iastore, 1) := by decide +kernel
theorem dX9_addCutter_103 : decode cX9_addCutter 103 = .ok (.aload_n 0, 1) := by decide +kernel
theorem dX9_addCutter_104 : decode cX9_addCutter 104 = .ok (.dup, 1) := by decide +kernel
theorem dX9_addCutter_105 : decode cX9_addCutter 105 = .ok (.getfield 79, 3) := by decide +kernel
theorem dX9_addCutter_108 : decode cX9_addCutter 108 = .ok (.iconst 1, 1) := by decide +kernel
theorem dX9_addCutter_109 : decode cX9_addCutter 109 = .ok (.iadd, 1) := by decide +kernel
theorem dX9_addCutter_110 : decode cX9_addCutter 110 = .ok (.putfield 79, 3) := by decide +kernel
theorem dX9_addCutter_113 : decode cX9_addCutter 113 = .ok (.aload_n 0, 1) := by decide +kernel
theorem dX9_addCutter_114 : decode cX9_addCutter 114 = .ok (.getfield 79, 3) := by decide +kernel
theorem dX9_addCutter_117 : decode cX9_addCutter 117 = .ok (.iconst 1, 1) := by decide +kernel
theorem dX9_addCutter_118 : decode cX9_addCutter 118 = .ok (.isub, 1) := by decide +kernel
theorem dX9_addCutter_119 : decode cX9_addCutter 119 = .ok (.ireturn, 1) := by decide +kernel
theorem dX9_cutter_0 : decode cX9_cutter 0 = .ok (.iconst (-1), 1) := by decide +kernel
theorem dX9_cutter_1 : decode cX9_cutter 1 = .ok (.istore_n 3, 1) := by decide +kernel
theorem dX9_cutter_2 : decode cX9_cutter 2 = .ok (.aload_n 0, 1) := by decide +kernel
theorem dX9_cutter_3 : decode cX9_cutter 3 = .ok (.getfield 79, 3) := by decide +kernel
theorem dX9_cutter_6 : decode cX9_cutter 6 = .ok (.iconst 1, 1) := by decide +kernel
theorem dX9_cutter_7 : decode cX9_cutter 7 = .ok (.isub, 1) := by decide +kernel
theorem dX9_cutter_8 : decode cX9_cutter 8 = .ok (.istore 4, 2) := by decide +kernel
theorem dX9_cutter_10 : decode cX9_cutter 10 = .ok (.iload 4, 2) := by decide +kernel
theorem dX9_cutter_12 : decode cX9_cutter 12 = .ok (.ifCond .lt 48, 3) := by decide +kernel
theorem dX9_cutter_15 : decode cX9_cutter 15 = .ok (.aload_n 0, 1) := by decide +kernel
theorem dX9_cutter_16 : decode cX9_cutter 16 = .ok (.getfield 7, 3) := by decide +kernel
theorem dX9_cutter_19 : decode cX9_cutter 19 = .ok (.iload 4, 2) := by decide +kernel
theorem dX9_cutter_21 : decode cX9_cutter 21 = .ok (.iaload, 1) := by decide +kernel
theorem dX9_cutter_22 : decode cX9_cutter 22 = .ok (.iload_n 1, 1) := by decide +kernel
theorem dX9_cutter_23 : decode cX9_cutter 23 = .ok (.if_icmp .ne 29, 3) := by decide +kernel
theorem dX9_cutter_26 : decode cX9_cutter 26 = .ok (.iload_n 2, 1) := by decide +kernel
theorem dX9_cutter_27 : decode cX9_cutter 27 = .ok (.aload_n 0, 1) := by decide +kernel
theorem dX9_cutter_28 : decode cX9_cutter 28 = .ok (.getfield 13, 3) := by decide +kernel
theorem dX9_cutter_31 : decode cX9_cutter 31 = .ok (.iload 4, 2) := by decide +kernel
theorem dX9_cutter_33 : decode cX9_cutter 33 = .ok (.iaload, 1) := by decide +kernel
theorem dX9_cutter_34 : decode cX9_cutter 34 = .ok (.aload_n 0, 1) := by decide +kernel
theorem dX9_cutter_35 : decode cX9_cutter 35 = .ok (.getfield 16, 3) := by decide +kernel
theorem dX9_cutter_38 : decode cX9_cutter 38 = .ok (.iload 4, 2) := by decide +kernel
theorem dX9_cutter_40 : decode cX9_cutter 40 = .ok (.iaload, 1) := by decide +kernel
theorem dX9_cutter_41 : decode cX9_cutter 41 = .ok (.invokestatic 72, 3) := by decide +kernel
theorem dX9_cutter_44 : decode cX9_cutter 44 = .ok (.ifCond .eq 8, 3) := by decide +kernel
theorem dX9_cutter_47 : decode cX9_cutter 47 = .ok (.iload 4, 2) := by decide +kernel
theorem dX9_cutter_49 : decode cX9_cutter 49 = .ok (.goto 4, 3) := by decide +kernel
theorem dX9_cutter_52 : decode cX9_cutter 52 = .ok (.iload_n 3, 1) := by decide +kernel
theorem dX9_cutter_53 : decode cX9_cutter 53 = .ok (.istore_n 3, 1) := by decide +kernel
theorem dX9_cutter_54 : decode cX9_cutter 54 = .ok (.iinc 4 (-1), 3) := by decide +kernel
theorem dX9_cutter_57 : decode cX9_cutter 57 = .ok (.goto (-47), 3) := by decide +kernel
theorem dX9_cutter_60 : decode cX9_cutter 60 = .ok (.iload_n 3, 1) := by decide +kernel
theorem dX9_cutter_61 : decode cX9_cutter 61 = .ok (.ireturn, 1) := by decide +kernel
theorem dX9_cutterFor_0 : decode cX9_cutterFor 0 = .ok (.aload_n 0, 1) := by decide +kernel
theorem dX9_cutterFor_1 : decode cX9_cutterFor 1 = .ok (.iload_n 1, 1) := by decide +kernel
theorem dX9_cutterFor_2 : decode cX9_cutterFor 2 = .ok (.iconst 1, 1) := by decide +kernel
theorem dX9_cutterFor_3 : decode cX9_cutterFor 3 = .ok (.iconst 4, 1) := by decide +kernel
theorem dX9_cutterFor_4 : decode cX9_cutterFor 4 = .ok (.invokestatic 72, 3) := by decide +kernel
theorem dX9_cutterFor_7 : decode cX9_cutterFor 7 = .ok (.ifCond .eq 18, 3) := by decide +kernel
theorem dX9_cutterFor_10 : decode cX9_cutterFor 10 = .ok (.iload_n 2, 1) := by decide +kernel
theorem dX9_cutterFor_11 : decode cX9_cutterFor 11 = .ok (.bipush 8, 2) := by decide +kernel
theorem dX9_cutterFor_13 : decode cX9_cutterFor 13 = .ok (.bipush 60, 2) := by decide +kernel
theorem dX9_cutterFor_15 : decode cX9_cutterFor 15 = .ok (.invokestatic 72, 3) := by decide +kernel
theorem dX9_cutterFor_18 : decode cX9_cutterFor 18 = .ok (.ifCond .eq 7, 3) := by decide +kernel
theorem dX9_cutterFor_21 : decode cX9_cutterFor 21 = .ok (.iconst 0, 1) := by decide +kernel
theorem dX9_cutterFor_22 : decode cX9_cutterFor 22 = .ok (.goto 4, 3) := by decide +kernel
theorem dX9_cutterFor_25 : decode cX9_cutterFor 25 = .ok (.iconst 1, 1) := by decide +kernel
theorem dX9_cutterFor_26 : decode cX9_cutterFor 26 = .ok (.putfield 65, 3) := by decide +kernel
theorem dX9_cutterFor_29 : decode cX9_cutterFor 29 = .ok (.aload_n 0, 1) := by decide +kernel
theorem dX9_cutterFor_30 : decode cX9_cutterFor 30 = .ok (.getfield 65, 3) := by decide +kernel
theorem dX9_cutterFor_33 : decode cX9_cutterFor 33 = .ok (.ifCond .le 7, 3) := by decide +kernel
theorem dX9_cutterFor_36 : decode cX9_cutterFor 36 = .ok (.iconst 0, 1) := by decide +kernel
theorem dX9_cutterFor_37 : decode cX9_cutterFor 37 = .ok (.goto 9, 3) := by decide +kernel
theorem dX9_cutterFor_40 : decode cX9_cutterFor 40 = .ok (.aload_n 0, 1) := by decide +kernel
theorem dX9_cutterFor_41 : decode cX9_cutterFor 41 = .ok (.iload_n 1, 1) := by decide +kernel
theorem dX9_cutterFor_42 : decode cX9_cutterFor 42 = .ok (.iload_n 2, 1) := by decide +kernel
theorem dX9_cutterFor_43 : decode cX9_cutterFor 43 = .ok (.invokevirtual 82, 3) := by decide +kernel
theorem dX9_cutterFor_46 : decode cX9_cutterFor 46 = .ok (.ireturn, 1) := by decide +kernel
theorem dX9_draftDistance_0 : decode cX9_draftDistance 0 = .ok (.iconst 0, 1) := by decide +kernel
theorem dX9_draftDistance_1 : decode cX9_draftDistance 1 = .ok (.istore_n 1, 1) := by decide +kernel
theorem dX9_draftDistance_2 : decode cX9_draftDistance 2 = .ok (.iconst 0, 1) := by decide +kernel
theorem dX9_draftDistance_3 : decode cX9_draftDistance 3 = .ok (.istore_n 2, 1) := by decide +kernel
theorem dX9_draftDistance_4 : decode cX9_draftDistance 4 = .ok (.iload_n 2, 1) := by decide +kernel
theorem dX9_draftDistance_5 : decode cX9_draftDistance 5 = .ok (.aload_n 0, 1) := by decide +kernel
theorem dX9_draftDistance_6 : decode cX9_draftDistance 6 = .ok (.getfield 86, 3) := by decide +kernel
theorem dX9_draftDistance_9 : decode cX9_draftDistance 9 = .ok (.if_icmp .ge 42, 3) := by decide +kernel
theorem dX9_draftDistance_12 : decode cX9_draftDistance 12 = .ok (.iload_n 1, 1) := by decide +kernel
theorem dX9_draftDistance_13 : decode cX9_draftDistance 13 = .ok (.aload_n 0, 1) := by decide +kernel
theorem dX9_draftDistance_14 : decode cX9_draftDistance 14 = .ok (.getfield 19, 3) := by decide +kernel
theorem dX9_draftDistance_17 : decode cX9_draftDistance 17 = .ok (.iconst 3, 1) := by decide +kernel
theorem dX9_draftDistance_18 : decode cX9_draftDistance 18 = .ok (.iload_n 2, 1) := by decide +kernel
theorem dX9_draftDistance_19 : decode cX9_draftDistance 19 = .ok (.imul, 1) := by decide +kernel
theorem dX9_draftDistance_20 : decode cX9_draftDistance 20 = .ok (.iaload, 1) := by decide +kernel
theorem dX9_draftDistance_21 : decode cX9_draftDistance 21 = .ok (.aload_n 0, 1) := by decide +kernel
theorem dX9_draftDistance_22 : decode cX9_draftDistance 22 = .ok (.getfield 19, 3) := by decide +kernel
theorem dX9_draftDistance_25 : decode cX9_draftDistance 25 = .ok (.iconst 3, 1) := by decide +kernel
theorem dX9_draftDistance_26 : decode cX9_draftDistance 26 = .ok (.iload_n 2, 1) := by decide +kernel
theorem dX9_draftDistance_27 : decode cX9_draftDistance 27 = .ok (.imul, 1) := by decide +kernel
theorem dX9_draftDistance_28 : decode cX9_draftDistance 28 = .ok (.iconst 1, 1) := by decide +kernel
theorem dX9_draftDistance_29 : decode cX9_draftDistance 29 = .ok (.iadd, 1) := by decide +kernel
theorem dX9_draftDistance_30 : decode cX9_draftDistance 30 = .ok (.iaload, 1) := by decide +kernel
theorem dX9_draftDistance_31 : decode cX9_draftDistance 31 = .ok (.aload_n 0, 1) := by decide +kernel
theorem dX9_draftDistance_32 : decode cX9_draftDistance 32 = .ok (.getfield 19, 3) := by decide +kernel
theorem dX9_draftDistance_35 : decode cX9_draftDistance 35 = .ok (.iconst 3, 1) := by decide +kernel
theorem dX9_draftDistance_36 : decode cX9_draftDistance 36 = .ok (.iload_n 2, 1) := by decide +kernel
theorem dX9_draftDistance_37 : decode cX9_draftDistance 37 = .ok (.imul, 1) := by decide +kernel
theorem dX9_draftDistance_38 : decode cX9_draftDistance 38 = .ok (.iconst 2, 1) := by decide +kernel
theorem dX9_draftDistance_39 : decode cX9_draftDistance 39 = .ok (.iadd, 1) := by decide +kernel
theorem dX9_draftDistance_40 : decode cX9_draftDistance 40 = .ok (.iaload, 1) := by decide +kernel
theorem dX9_draftDistance_41 : decode cX9_draftDistance 41 = .ok (.iadd, 1) := by decide +kernel
theorem dX9_draftDistance_42 : decode cX9_draftDistance 42 = .ok (.imul, 1) := by decide +kernel
theorem dX9_draftDistance_43 : decode cX9_draftDistance 43 = .ok (.iadd, 1) := by decide +kernel
theorem dX9_draftDistance_44 : decode cX9_draftDistance 44 = .ok (.istore_n 1, 1) := by decide +kernel
theorem dX9_draftDistance_45 : decode cX9_draftDistance 45 = .ok (.iinc 2 1, 3) := by decide +kernel
theorem dX9_draftDistance_48 : decode cX9_draftDistance 48 = .ok (.goto (-44), 3) := by decide +kernel
theorem dX9_draftDistance_51 : decode cX9_draftDistance 51 = .ok (.iload_n 1, 1) := by decide +kernel
theorem dX9_draftDistance_52 : decode cX9_draftDistance 52 = .ok (.ireturn, 1) := by decide +kernel
theorem dX9_stage_0 : decode cX9_stage 0 = .ok (.iload_n 1, 1) := by decide +kernel
theorem dX9_stage_1 : decode cX9_stage 1 = .ok (.iconst 1, 1) := by decide +kernel
theorem dX9_stage_2 : decode cX9_stage 2 = .ok (.iconst 4, 1) := by decide +kernel
theorem dX9_stage_3 : decode cX9_stage 3 = .ok (.invokestatic 72, 3) := by decide +kernel
theorem dX9_stage_6 : decode cX9_stage 6 = .ok (.ifCond .eq 29, 3) := by decide +kernel
theorem dX9_stage_9 : decode cX9_stage 9 = .ok (.iload_n 2, 1) := by decide +kernel
theorem dX9_stage_10 : decode cX9_stage 10 = .ok (.bipush 8, 2) := by decide +kernel
theorem dX9_stage_12 : decode cX9_stage 12 = .ok (.bipush 60, 2) := by decide +kernel
theorem dX9_stage_14 : decode cX9_stage 14 = .ok (.invokestatic 72, 3) := by decide +kernel
theorem dX9_stage_17 : decode cX9_stage 17 = .ok (.ifCond .eq 18, 3) := by decide +kernel
theorem dX9_stage_20 : decode cX9_stage 20 = .ok (.iload_n 3, 1) := by decide +kernel
theorem dX9_stage_21 : decode cX9_stage 21 = .ok (.bipush 8, 2) := by decide +kernel
theorem dX9_stage_23 : decode cX9_stage 23 = .ok (.bipush 60, 2) := by decide +kernel
theorem dX9_stage_25 : decode cX9_stage 25 = .ok (.invokestatic 72, 3) := by decide +kernel
theorem dX9_stage_28 : decode cX9_stage 28 = .ok (.ifCond .eq 7, 3) := by decide +kernel
theorem dX9_stage_31 : decode cX9_stage 31 = .ok (.iconst 1, 1) := by decide +kernel
theorem dX9_stage_32 : decode cX9_stage 32 = .ok (.goto 4, 3) := by decide +kernel
theorem dX9_stage_35 : decode cX9_stage 35 = .ok (.iconst 0, 1) := by decide +kernel
theorem dX9_stage_36 : decode cX9_stage 36 = .ok (.istore 4, 2) := by decide +kernel
theorem dX9_stage_38 : decode cX9_stage 38 = .ok (.aload_n 0, 1) := by decide +kernel
theorem dX9_stage_39 : decode cX9_stage 39 = .ok (.iload 4, 2) := by decide +kernel
theorem dX9_stage_41 : decode cX9_stage 41 = .ok (.ifCond .ne 7, 3) := by decide +kernel
theorem dX9_stage_44 : decode cX9_stage 44 = .ok (.iconst 1, 1) := by decide +kernel
theorem dX9_stage_45 : decode cX9_stage 45 = .ok (.goto 16, 3) := by decide +kernel
theorem dX9_stage_48 : decode cX9_stage 48 = .ok (.aload_n 0, 1) := by decide +kernel
theorem dX9_stage_49 : decode cX9_stage 49 = .ok (.getfield 86, 3) := by decide +kernel
theorem dX9_stage_52 : decode cX9_stage 52 = .ok (.iconst 4, 1) := by decide +kernel
theorem dX9_stage_53 : decode cX9_stage 53 = .ok (.if_icmp .ne 7, 3) := by decide +kernel
theorem dX9_stage_56 : decode cX9_stage 56 = .ok (.iconst 2, 1) := by decide +kernel
theorem dX9_stage_57 : decode cX9_stage 57 = .ok (.goto 4, 3) := by decide +kernel
theorem dX9_stage_60 : decode cX9_stage 60 = .ok (.iconst 0, 1) := by decide +kernel
theorem dX9_stage_61 : decode cX9_stage 61 = .ok (.putfield 65, 3) := by decide +kernel
theorem dX9_stage_64 : decode cX9_stage 64 = .ok (.aload_n 0, 1) := by decide +kernel
theorem dX9_stage_65 : decode cX9_stage 65 = .ok (.getfield 65, 3) := by decide +kernel
theorem dX9_stage_68 : decode cX9_stage 68 = .ok (.ifCond .le 5, 3) := by decide +kernel
theorem dX9_stage_71 : decode cX9_stage 71 = .ok (.iconst 0, 1) := by decide +kernel
theorem dX9_stage_72 : decode cX9_stage 72 = .ok (.ireturn, 1) := by decide +kernel
theorem dX9_stage_73 : decode cX9_stage 73 = .ok (.aload_n 0, 1) := by decide +kernel
theorem dX9_stage_74 : decode cX9_stage 74 = .ok (.getfield 19, 3) := by decide +kernel
theorem dX9_stage_77 : decode cX9_stage 77 = .ok (.iconst 3, 1) := by decide +kernel
theorem dX9_stage_78 : decode cX9_stage 78 = .ok (.aload_n 0, 1) := by decide +kernel
theorem dX9_stage_79 : decode cX9_stage 79 = .ok (.getfield 86, 3) := by decide +kernel
theorem dX9_stage_82 : decode cX9_stage 82 = .ok (.imul, 1) := by decide +kernel
theorem dX9_stage_83 : decode cX9_stage 83 = .ok (.iload_n 1, 1) := by decide +kernel
theorem dX9_stage_84 : decode cX9_stage 84 = .ok (.iastore, 1) := by decide +kernel
theorem dX9_stage_85 : decode cX9_stage 85 = .ok (.aload_n 0, 1) := by decide +kernel
theorem dX9_stage_86 : decode cX9_stage 86 = .ok (.getfield 19, 3) := by decide +kernel
theorem dX9_stage_89 : decode cX9_stage 89 = .ok (.iconst 3, 1) := by decide +kernel
theorem dX9_stage_90 : decode cX9_stage 90 = .ok (.aload_n 0, 1) := by decide +kernel
theorem dX9_stage_91 : decode cX9_stage 91 = .ok (.getfield 86, 3) := by decide +kernel
theorem dX9_stage_94 : decode cX9_stage 94 = .ok (.imul, 1) := by decide +kernel
theorem dX9_stage_95 : decode cX9_stage 95 = .ok (.iconst 1, 1) := by decide +kernel
theorem dX9_stage_96 : decode cX9_stage 96 = .ok (.iadd, 1) := by decide +kernel
theorem dX9_stage_97 : decode cX9_stage 97 = .ok (.iload_n 2, 1) := by decide +kernel
theorem dX9_stage_98 : decode cX9_stage 98 = .ok (.iastore, 1) := by decide +kernel
theorem dX9_stage_99 : decode cX9_stage 99 = .ok (.aload_n 0, 1) := by decide +kernel
theorem dX9_stage_100 : decode cX9_stage 100 = .ok (.getfield 19, 3) := by decide +kernel
theorem dX9_stage_103 : decode cX9_stage 103 = .ok (.iconst 3, 1) := by decide +kernel
theorem dX9_stage_104 : decode cX9_stage 104 = .ok (.aload_n 0, 1) := by decide +kernel
theorem dX9_stage_105 : decode cX9_stage 105 = .ok (.getfield 86, 3) := by decide +kernel
theorem dX9_stage_108 : decode cX9_stage 108 = .ok (.imul, 1) := by decide +kernel
theorem dX9_stage_109 : decode cX9_stage 109 = .ok (.iconst 2, 1) := by decide +kernel
theorem dX9_stage_110 : decode cX9_stage 110 = .ok (.iadd, 1) := by decide +kernel
theorem dX9_stage_111 : decode cX9_stage 111 = .ok (.iload_n 3, 1) := by decide +kernel
theorem dX9_stage_112 : decode cX9_stage 112 = .ok (.iastore, 1) := by decide +kernel
theorem dX9_stage_113 : decode cX9_stage 113 = .ok (.aload_n 0, 1) := by decide +kernel
theorem dX9_stage_114 : decode cX9_stage 114 = .ok (.dup, 1) := by decide +kernel
theorem dX9_stage_115 : decode cX9_stage 115 = .ok (.getfield 86, 3) := by decide +kernel
theorem dX9_stage_118 : decode cX9_stage 118 = .ok (.iconst 1, 1) := by decide +kernel
theorem dX9_stage_119 : decode cX9_stage 119 = .ok (.iadd, 1) := by decide +kernel
theorem dX9_stage_120 : decode cX9_stage 120 = .ok (.putfield 86, 3) := by decide +kernel
theorem dX9_stage_123 : decode cX9_stage 123 = .ok (.aload_n 0, 1) := by decide +kernel
theorem dX9_stage_124 : decode cX9_stage 124 = .ok (.invokevirtual 89, 3) := by decide +kernel
theorem dX9_stage_127 : decode cX9_stage 127 = .ok (.ireturn, 1) := by decide +kernel
theorem dX9_scrap_0 : decode cX9_scrap 0 = .ok (.aload_n 0, 1) := by decide +kernel
theorem dX9_scrap_1 : decode cX9_scrap 1 = .ok (.iconst 0, 1) := by decide +kernel
theorem dX9_scrap_2 : decode cX9_scrap 2 = .ok (.putfield 65, 3) := by decide +kernel
theorem dX9_scrap_5 : decode cX9_scrap 5 = .ok (.aload_n 0, 1) := by decide +kernel
theorem dX9_scrap_6 : decode cX9_scrap 6 = .ok (.getfield 86, 3) := by decide +kernel
theorem dX9_scrap_9 : decode cX9_scrap 9 = .ok (.istore_n 1, 1) := by decide +kernel
theorem dX9_scrap_10 : decode cX9_scrap 10 = .ok (.aload_n 0, 1) := by decide +kernel
theorem dX9_scrap_11 : decode cX9_scrap 11 = .ok (.iconst 0, 1) := by decide +kernel
theorem dX9_scrap_12 : decode cX9_scrap 12 = .ok (.putfield 86, 3) := by decide +kernel
theorem dX9_scrap_15 : decode cX9_scrap 15 = .ok (.iload_n 1, 1) := by decide +kernel
theorem dX9_scrap_16 : decode cX9_scrap 16 = .ok (.ireturn, 1) := by decide +kernel
theorem dX9_make_0 : decode cX9_make 0 = .ok (.aload_n 0, 1) := by decide +kernel
theorem dX9_make_1 : decode cX9_make 1 = .ok (.getfield 86, 3) := by decide +kernel
theorem dX9_make_4 : decode cX9_make 4 = .ok (.ifCond .le 24, 3) := by decide +kernel
theorem dX9_make_7 : decode cX9_make 7 = .ok (.iload_n 1, 1) := by decide +kernel
theorem dX9_make_8 : decode cX9_make 8 = .ok (.aload_n 0, 1) := by decide +kernel
theorem dX9_make_9 : decode cX9_make 9 = .ok (.invokevirtual 89, 3) := by decide +kernel
theorem dX9_make_12 : decode cX9_make 12 = .ok (.if_icmp .ne 16, 3) := by decide +kernel
theorem dX9_make_15 : decode cX9_make 15 = .ok (.aload_n 0, 1) := by decide +kernel
theorem dX9_make_16 : decode cX9_make 16 = .ok (.getfield 69, 3) := by decide +kernel
theorem dX9_make_19 : decode cX9_make 19 = .ok (.bipush 8, 2) := by decide +kernel
theorem dX9_make_21 : decode cX9_make 21 = .ok (.if_icmp .ge 7, 3) := by decide +kernel
theorem dX9_make_24 : decode cX9_make 24 = .ok (.iconst 1, 1) := by decide +kernel
theorem dX9_make_25 : decode cX9_make 25 = .ok (.goto 4, 3) := by decide +kernel
theorem dX9_make_28 : decode cX9_make 28 = .ok (.iconst 0, 1) := by decide +kernel
theorem dX9_make_29 : decode cX9_make 29 = .ok (.istore_n 2, 1) := by decide +kernel
theorem dX9_make_30 : decode cX9_make 30 = .ok (.iconst 0, 1) := by decide +kernel
theorem dX9_make_31 : decode cX9_make 31 = .ok (.istore_n 3, 1) := by decide +kernel
theorem dX9_make_32 : decode cX9_make 32 = .ok (.iload_n 3, 1) := by decide +kernel
theorem dX9_make_33 : decode cX9_make 33 = .ok (.aload_n 0, 1) := by decide +kernel
theorem dX9_make_34 : decode cX9_make 34 = .ok (.getfield 86, 3) := by decide +kernel
theorem dX9_make_37 : decode cX9_make 37 = .ok (.if_icmp .ge 71, 3) := by decide +kernel
theorem dX9_make_40 : decode cX9_make 40 = .ok (.iload_n 2, 1) := by decide +kernel
theorem dX9_make_41 : decode cX9_make 41 = .ok (.ifCond .eq 59, 3) := by decide +kernel
theorem dX9_make_44 : decode cX9_make 44 = .ok (.aload_n 0, 1) := by decide +kernel
theorem dX9_make_45 : decode cX9_make 45 = .ok (.aload_n 0, 1) := by decide +kernel
theorem dX9_make_46 : decode cX9_make 46 = .ok (.getfield 19, 3) := by decide +kernel
theorem dX9_make_49 : decode cX9_make 49 = .ok (.iconst 3, 1) := by decide +kernel
theorem dX9_make_50 : decode cX9_make 50 = .ok (.iload_n 3, 1) := by decide +kernel
theorem dX9_make_51 : decode cX9_make 51 = .ok (.imul, 1) := by decide +kernel
theorem dX9_make_52 : decode cX9_make 52 = .ok (.iaload, 1) := by decide +kernel
theorem dX9_make_53 : decode cX9_make 53 = .ok (.aload_n 0, 1) := by decide +kernel
theorem dX9_make_54 : decode cX9_make 54 = .ok (.getfield 19, 3) := by decide +kernel
theorem dX9_make_57 : decode cX9_make 57 = .ok (.iconst 3, 1) := by decide +kernel
theorem dX9_make_58 : decode cX9_make 58 = .ok (.iload_n 3, 1) := by decide +kernel
theorem dX9_make_59 : decode cX9_make 59 = .ok (.imul, 1) := by decide +kernel
theorem dX9_make_60 : decode cX9_make 60 = .ok (.iconst 1, 1) := by decide +kernel
theorem dX9_make_61 : decode cX9_make 61 = .ok (.iadd, 1) := by decide +kernel
theorem dX9_make_62 : decode cX9_make 62 = .ok (.iaload, 1) := by decide +kernel
theorem dX9_make_63 : decode cX9_make 63 = .ok (.invokevirtual 82, 3) := by decide +kernel
theorem dX9_make_66 : decode cX9_make 66 = .ok (.iconst (-1), 1) := by decide +kernel
theorem dX9_make_67 : decode cX9_make 67 = .ok (.if_icmp .eq 33, 3) := by decide +kernel
theorem dX9_make_70 : decode cX9_make 70 = .ok (.aload_n 0, 1) := by decide +kernel
theorem dX9_make_71 : decode cX9_make 71 = .ok (.aload_n 0, 1) := by decide +kernel
theorem dX9_make_72 : decode cX9_make 72 = .ok (.getfield 19, 3) := by decide +kernel
theorem dX9_make_75 : decode cX9_make 75 = .ok (.iconst 3, 1) := by decide +kernel
theorem dX9_make_76 : decode cX9_make 76 = .ok (.iload_n 3, 1) := by decide +kernel
theorem dX9_make_77 : decode cX9_make 77 = .ok (.imul, 1) := by decide +kernel
theorem dX9_make_78 : decode cX9_make 78 = .ok (.iaload, 1) := by decide +kernel
theorem dX9_make_79 : decode cX9_make 79 = .ok (.aload_n 0, 1) := by decide +kernel
theorem dX9_make_80 : decode cX9_make 80 = .ok (.getfield 19, 3) := by decide +kernel
theorem dX9_make_83 : decode cX9_make 83 = .ok (.iconst 3, 1) := by decide +kernel
theorem dX9_make_84 : decode cX9_make 84 = .ok (.iload_n 3, 1) := by decide +kernel
theorem dX9_make_85 : decode cX9_make 85 = .ok (.imul, 1) := by decide +kernel
theorem dX9_make_86 : decode cX9_make 86 = .ok (.iconst 2, 1) := by decide +kernel
theorem dX9_make_87 : decode cX9_make 87 = .ok (.iadd, 1) := by decide +kernel
theorem dX9_make_88 : decode cX9_make 88 = .ok (.iaload, 1) := by decide +kernel
theorem dX9_make_89 : decode cX9_make 89 = .ok (.invokevirtual 82, 3) := by decide +kernel
theorem dX9_make_92 : decode cX9_make 92 = .ok (.iconst (-1), 1) := by decide +kernel
theorem dX9_make_93 : decode cX9_make 93 = .ok (.if_icmp .eq 7, 3) := by decide +kernel
theorem dX9_make_96 : decode cX9_make 96 = .ok (.iconst 1, 1) := by decide +kernel
theorem dX9_make_97 : decode cX9_make 97 = .ok (.goto 4, 3) := by decide +kernel
theorem dX9_make_100 : decode cX9_make 100 = .ok (.iconst 0, 1) := by decide +kernel
theorem dX9_make_101 : decode cX9_make 101 = .ok (.istore_n 2, 1) := by decide +kernel
theorem dX9_make_102 : decode cX9_make 102 = .ok (.iinc 3 1, 3) := by decide +kernel
theorem dX9_make_105 : decode cX9_make 105 = .ok (.goto (-73), 3) := by decide +kernel
theorem dX9_make_108 : decode cX9_make 108 = .ok (.aload_n 0, 1) := by decide +kernel
theorem dX9_make_109 : decode cX9_make 109 = .ok (.iload_n 2, 1) := by decide +kernel
theorem dX9_make_110 : decode cX9_make 110 = .ok (.ifCond .eq 7, 3) := by decide +kernel
theorem dX9_make_113 : decode cX9_make 113 = .ok (.iconst 0, 1) := by decide +kernel
theorem dX9_make_114 : decode cX9_make 114 = .ok (.goto 4, 3) := by decide +kernel
theorem dX9_make_117 : decode cX9_make 117 = .ok (.iconst 1, 1) := by decide +kernel
theorem dX9_make_118 : decode cX9_make 118 = .ok (.putfield 65, 3) := by decide +kernel
theorem dX9_make_121 : decode cX9_make 121 = .ok (.aload_n 0, 1) := by decide +kernel
theorem dX9_make_122 : decode cX9_make 122 = .ok (.getfield 65, 3) := by decide +kernel
theorem dX9_make_125 : decode cX9_make 125 = .ok (.ifCond .le 5, 3) := by decide +kernel
theorem dX9_make_128 : decode cX9_make 128 = .ok (.iconst 0, 1) := by decide +kernel
theorem dX9_make_129 : decode cX9_make 129 = .ok (.ireturn, 1) := by decide +kernel
theorem dX9_make_130 : decode cX9_make 130 = .ok (.iconst 0, 1) := by decide +kernel
theorem dX9_make_131 : decode cX9_make 131 = .ok (.istore_n 3, 1) := by decide +kernel
theorem dX9_make_132 : decode cX9_make 132 = .ok (.iload_n 3, 1) := by decide +kernel
theorem dX9_make_133 : decode cX9_make 133 = .ok (.iconst 3, 1) := by decide +kernel
theorem dX9_make_134 : decode cX9_make 134 = .ok (.aload_n 0, 1) := by decide +kernel
theorem dX9_make_135 : decode cX9_make 135 = .ok (.getfield 86, 3) := by decide +kernel
theorem dX9_make_138 : decode cX9_make 138 = .ok (.imul, 1) := by decide +kernel
theorem dX9_make_139 : decode cX9_make 139 = .ok (.if_icmp .ge 29, 3) := by decide +kernel
theorem dX9_make_142 : decode cX9_make 142 = .ok (.aload_n 0, 1) := by decide +kernel
theorem dX9_make_143 : decode cX9_make 143 = .ok (.getfield 25, 3) := by decide +kernel
theorem dX9_make_146 : decode cX9_make 146 = .ok (.bipush 12, 2) := by decide +kernel
theorem dX9_make_148 : decode cX9_make 148 = .ok (.aload_n 0, 1) := by decide +kernel
theorem dX9_make_149 : decode cX9_make 149 = .ok (.getfield 69, 3) := by decide +kernel
theorem dX9_make_152 : decode cX9_make 152 = .ok (.imul, 1) := by decide +kernel
theorem dX9_make_153 : decode cX9_make 153 = .ok (.iload_n 3, 1) := by decide +kernel
theorem dX9_make_154 : decode cX9_make 154 = .ok (.iadd, 1) := by decide +kernel
theorem dX9_make_155 : decode cX9_make 155 = .ok (.aload_n 0, 1) := by decide +kernel
theorem dX9_make_156 : decode cX9_make 156 = .ok (.getfield 19, 3) := by decide +kernel
theorem dX9_make_159 : decode cX9_make 159 = .ok (.iload_n 3, 1) := by decide +kernel
theorem dX9_make_160 : decode cX9_make 160 = .ok (.iaload, 1) := by decide +kernel
theorem dX9_make_161 : decode cX9_make 161 = .ok (.iastore, 1) := by decide +kernel
theorem dX9_make_162 : decode cX9_make 162 = .ok (.iinc 3 1, 3) := by decide +kernel
theorem dX9_make_165 : decode cX9_make 165 = .ok (.goto (-33), 3) := by decide +kernel
theorem dX9_make_168 : decode cX9_make 168 = .ok (.aload_n 0, 1) := by decide +kernel
theorem dX9_make_169 : decode cX9_make 169 = .ok (.getfield 22, 3) := by decide +kernel
theorem dX9_make_172 : decode cX9_make 172 = .ok (.aload_n 0, 1) := by decide +kernel
theorem dX9_make_173 : decode cX9_make 173 = .ok (.getfield 69, 3) := by decide +kernel
theorem dX9_make_176 : decode cX9_make 176 = .ok (.aload_n 0, 1) := by decide +kernel
theorem dX9_make_177 : decode cX9_make 177 = .ok (.getfield 86, 3) := by decide +kernel
theorem dX9_make_180 : decode cX9_make 180 = .ok (.iastore, 1) := by decide +kernel
theorem dX9_make_181 : decode cX9_make 181 = .ok (.aload_n 0, 1) := by decide +kernel
theorem dX9_make_182 : decode cX9_make 182 = .ok (.iconst 0, 1) := by decide +kernel
theorem dX9_make_183 : decode cX9_make 183 = .ok (.putfield 86, 3) := by decide +kernel
theorem dX9_make_186 : decode cX9_make 186 = .ok (.aload_n 0, 1) := by decide +kernel
theorem dX9_make_187 : decode cX9_make 187 = .ok (.dup, 1) := by decide +kernel
theorem dX9_make_188 : decode cX9_make 188 = .ok (.getfield 69, 3) := by decide +kernel
theorem dX9_make_191 : decode cX9_make 191 = .ok (.iconst 1, 1) := by decide +kernel
theorem dX9_make_192 : decode cX9_make 192 = .ok (.iadd, 1) := by decide +kernel
theorem dX9_make_193 : decode cX9_make 193 = .ok (.putfield 69, 3) := by decide +kernel
theorem dX9_make_196 : decode cX9_make 196 = .ok (.aload_n 0, 1) := by decide +kernel
theorem dX9_make_197 : decode cX9_make 197 = .ok (.getfield 69, 3) := by decide +kernel
theorem dX9_make_200 : decode cX9_make 200 = .ok (.iconst 1, 1) := by decide +kernel
theorem dX9_make_201 : decode cX9_make 201 = .ok (.isub, 1) := by decide +kernel
theorem dX9_make_202 : decode cX9_make 202 = .ok (.ireturn, 1) := by decide +kernel
theorem dX9_product_0 : decode cX9_product 0 = .ok (.iconst 1, 1) := by decide +kernel
theorem dX9_product_1 : decode cX9_product 1 = .ok (.istore_n 3, 1) := by decide +kernel
theorem dX9_product_2 : decode cX9_product 2 = .ok (.iconst 0, 1) := by decide +kernel
theorem dX9_product_3 : decode cX9_product 3 = .ok (.istore 4, 2) := by decide +kernel
theorem dX9_product_5 : decode cX9_product 5 = .ok (.iload 4, 2) := by decide +kernel
theorem dX9_product_7 : decode cX9_product 7 = .ok (.aload_n 0, 1) := by decide +kernel
theorem dX9_product_8 : decode cX9_product 8 = .ok (.getfield 22, 3) := by decide +kernel
theorem dX9_product_11 : decode cX9_product 11 = .ok (.iload_n 1, 1) := by decide +kernel
theorem dX9_product_12 : decode cX9_product 12 = .ok (.iaload, 1) := by decide +kernel
theorem dX9_product_13 : decode cX9_product 13 = .ok (.if_icmp .ge 28, 3) := by decide +kernel
theorem dX9_product_16 : decode cX9_product 16 = .ok (.iload_n 3, 1) := by decide +kernel
theorem dX9_product_17 : decode cX9_product 17 = .ok (.aload_n 0, 1) := by decide +kernel
theorem dX9_product_18 : decode cX9_product 18 = .ok (.getfield 25, 3) := by decide +kernel
theorem dX9_product_21 : decode cX9_product 21 = .ok (.bipush 12, 2) := by decide +kernel
theorem dX9_product_23 : decode cX9_product 23 = .ok (.iload_n 1, 1) := by decide +kernel
theorem dX9_product_24 : decode cX9_product 24 = .ok (.imul, 1) := by decide +kernel
theorem dX9_product_25 : decode cX9_product 25 = .ok (.iconst 3, 1) := by decide +kernel
theorem dX9_product_26 : decode cX9_product 26 = .ok (.iload 4, 2) := by decide +kernel
theorem dX9_product_28 : decode cX9_product 28 = .ok (.imul, 1) := by decide +kernel
theorem dX9_product_29 : decode cX9_product 29 = .ok (.iadd, 1) := by decide +kernel
theorem dX9_product_30 : decode cX9_product 30 = .ok (.iload_n 2, 1) := by decide +kernel
theorem dX9_product_31 : decode cX9_product 31 = .ok (.iadd, 1) := by decide +kernel
theorem dX9_product_32 : decode cX9_product 32 = .ok (.iaload, 1) := by decide +kernel
theorem dX9_product_33 : decode cX9_product 33 = .ok (.imul, 1) := by decide +kernel
theorem dX9_product_34 : decode cX9_product 34 = .ok (.istore_n 3, 1) := by decide +kernel
theorem dX9_product_35 : decode cX9_product 35 = .ok (.iinc 4 1, 3) := by decide +kernel
theorem dX9_product_38 : decode cX9_product 38 = .ok (.goto (-33), 3) := by decide +kernel
theorem dX9_product_41 : decode cX9_product 41 = .ok (.iload_n 3, 1) := by decide +kernel
theorem dX9_product_42 : decode cX9_product 42 = .ok (.ireturn, 1) := by decide +kernel
theorem dX9_common_0 : decode cX9_common 0 = .ok (.iload_n 0, 1) := by decide +kernel
theorem dX9_common_1 : decode cX9_common 1 = .ok (.istore_n 2, 1) := by decide +kernel
theorem dX9_common_2 : decode cX9_common 2 = .ok (.iload_n 1, 1) := by decide +kernel
theorem dX9_common_3 : decode cX9_common 3 = .ok (.istore_n 3, 1) := by decide +kernel
theorem dX9_common_4 : decode cX9_common 4 = .ok (.iload_n 3, 1) := by decide +kernel
theorem dX9_common_5 : decode cX9_common 5 = .ok (.ifCond .le 16, 3) := by decide +kernel
theorem dX9_common_8 : decode cX9_common 8 = .ok (.iload_n 2, 1) := by decide +kernel
theorem dX9_common_9 : decode cX9_common 9 = .ok (.iload_n 3, 1) := by decide +kernel
theorem dX9_common_10 : decode cX9_common 10 = .ok (.irem, 1) := by decide +kernel
theorem dX9_common_11 : decode cX9_common 11 = .ok (.istore 4, 2) := by decide +kernel
theorem dX9_common_13 : decode cX9_common 13 = .ok (.iload_n 3, 1) := by decide +kernel
theorem dX9_common_14 : decode cX9_common 14 = .ok (.istore_n 2, 1) := by decide +kernel
theorem dX9_common_15 : decode cX9_common 15 = .ok (.iload 4, 2) := by decide +kernel
theorem dX9_common_17 : decode cX9_common 17 = .ok (.istore_n 3, 1) := by decide +kernel
theorem dX9_common_18 : decode cX9_common 18 = .ok (.goto (-14), 3) := by decide +kernel
theorem dX9_common_21 : decode cX9_common 21 = .ok (.iload_n 2, 1) := by decide +kernel
theorem dX9_common_22 : decode cX9_common 22 = .ok (.ireturn, 1) := by decide +kernel
theorem dX9_numerator_0 : decode cX9_numerator 0 = .ok (.aload_n 0, 1) := by decide +kernel
theorem dX9_numerator_1 : decode cX9_numerator 1 = .ok (.iload_n 1, 1) := by decide +kernel
theorem dX9_numerator_2 : decode cX9_numerator 2 = .ok (.invokevirtual 93, 3) := by decide +kernel
theorem dX9_numerator_5 : decode cX9_numerator 5 = .ok (.ifCond .eq 28, 3) := by decide +kernel
theorem dX9_numerator_8 : decode cX9_numerator 8 = .ok (.aload_n 0, 1) := by decide +kernel
theorem dX9_numerator_9 : decode cX9_numerator 9 = .ok (.iload_n 1, 1) := by decide +kernel
theorem dX9_numerator_10 : decode cX9_numerator 10 = .ok (.iconst 2, 1) := by decide +kernel
theorem dX9_numerator_11 : decode cX9_numerator 11 = .ok (.invokevirtual 97, 3) := by decide +kernel
theorem dX9_numerator_14 : decode cX9_numerator 14 = .ok (.aload_n 0, 1) := by decide +kernel
theorem dX9_numerator_15 : decode cX9_numerator 15 = .ok (.iload_n 1, 1) := by decide +kernel
theorem dX9_numerator_16 : decode cX9_numerator 16 = .ok (.iconst 2, 1) := by decide +kernel
theorem dX9_numerator_17 : decode cX9_numerator 17 = .ok (.invokevirtual 97, 3) := by decide +kernel
theorem dX9_numerator_20 : decode cX9_numerator 20 = .ok (.aload_n 0, 1) := by decide +kernel
theorem dX9_numerator_21 : decode cX9_numerator 21 = .ok (.iload_n 1, 1) := by decide +kernel
theorem dX9_numerator_22 : decode cX9_numerator 22 = .ok (.iconst 1, 1) := by decide +kernel
theorem dX9_numerator_23 : decode cX9_numerator 23 = .ok (.invokevirtual 97, 3) := by decide +kernel
theorem dX9_numerator_26 : decode cX9_numerator 26 = .ok (.invokestatic 100, 3) := by decide +kernel
theorem dX9_numerator_29 : decode cX9_numerator 29 = .ok (.idiv, 1) := by decide +kernel
theorem dX9_numerator_30 : decode cX9_numerator 30 = .ok (.goto 4, 3) := by decide +kernel
theorem dX9_numerator_33 : decode cX9_numerator 33 = .ok (.iconst 0, 1) := by decide +kernel
theorem dX9_numerator_34 : decode cX9_numerator 34 = .ok (.ireturn, 1) := by decide +kernel
theorem dX9_denominator_0 : decode cX9_denominator 0 = .ok (.aload_n 0, 1) := by decide +kernel
theorem dX9_denominator_1 : decode cX9_denominator 1 = .ok (.iload_n 1, 1) := by decide +kernel
theorem dX9_denominator_2 : decode cX9_denominator 2 = .ok (.invokevirtual 93, 3) := by decide +kernel
theorem dX9_denominator_5 : decode cX9_denominator 5 = .ok (.ifCond .eq 28, 3) := by decide +kernel
theorem dX9_denominator_8 : decode cX9_denominator 8 = .ok (.aload_n 0, 1) := by decide +kernel
theorem dX9_denominator_9 : decode cX9_denominator 9 = .ok (.iload_n 1, 1) := by decide +kernel
theorem dX9_denominator_10 : decode cX9_denominator 10 = .ok (.iconst 1, 1) := by decide +kernel
theorem dX9_denominator_11 : decode cX9_denominator 11 = .ok (.invokevirtual 97, 3) := by decide +kernel
theorem dX9_denominator_14 : decode cX9_denominator 14 = .ok (.aload_n 0, 1) := by decide +kernel
theorem dX9_denominator_15 : decode cX9_denominator 15 = .ok (.iload_n 1, 1) := by decide +kernel
theorem dX9_denominator_16 : decode cX9_denominator 16 = .ok (.iconst 2, 1) := by decide +kernel
theorem dX9_denominator_17 : decode cX9_denominator 17 = .ok (.invokevirtual 97, 3) := by decide +kernel
theorem dX9_denominator_20 : decode cX9_denominator 20 = .ok (.aload_n 0, 1) := by decide +kernel
theorem dX9_denominator_21 : decode cX9_denominator 21 = .ok (.iload_n 1, 1) := by decide +kernel
theorem dX9_denominator_22 : decode cX9_denominator 22 = .ok (.iconst 1, 1) := by decide +kernel
theorem dX9_denominator_23 : decode cX9_denominator 23 = .ok (.invokevirtual 97, 3) := by decide +kernel
theorem dX9_denominator_26 : decode cX9_denominator 26 = .ok (.invokestatic 100, 3) := by decide +kernel
theorem dX9_denominator_29 : decode cX9_denominator 29 = .ok (.idiv, 1) := by decide +kernel
theorem dX9_denominator_30 : decode cX9_denominator 30 = .ok (.goto 4, 3) := by decide +kernel
theorem dX9_denominator_33 : decode cX9_denominator 33 = .ok (.iconst 0, 1) := by decide +kernel
theorem dX9_denominator_34 : decode cX9_denominator 34 = .ok (.ireturn, 1) := by decide +kernel
theorem dX9_turned_0 : decode cX9_turned 0 = .ok (.aload_n 0, 1) := by decide +kernel
theorem dX9_turned_1 : decode cX9_turned 1 = .ok (.aload_n 0, 1) := by decide +kernel
theorem dX9_turned_2 : decode cX9_turned 2 = .ok (.iload_n 1, 1) := by decide +kernel
theorem dX9_turned_3 : decode cX9_turned 3 = .ok (.invokevirtual 93, 3) := by decide +kernel
theorem dX9_turned_6 : decode cX9_turned 6 = .ok (.ifCond .ne 7, 3) := by decide +kernel
theorem dX9_turned_9 : decode cX9_turned 9 = .ok (.iconst 1, 1) := by decide +kernel
theorem dX9_turned_10 : decode cX9_turned 10 = .ok (.goto 18, 3) := by decide +kernel
theorem dX9_turned_13 : decode cX9_turned 13 = .ok (.iload_n 2, 1) := by decide +kernel
theorem dX9_turned_14 : decode cX9_turned 14 = .ok (.iconst 0, 1) := by decide +kernel
theorem dX9_turned_15 : decode cX9_turned 15 = .ok (.ldc 103, 2) := by decide +kernel
theorem dX9_turned_17 : decode cX9_turned 17 = .ok (.invokestatic 72, 3) := by decide +kernel
theorem dX9_turned_20 : decode cX9_turned 20 = .ok (.ifCond .eq 7, 3) := by decide +kernel
theorem dX9_turned_23 : decode cX9_turned 23 = .ok (.iconst 0, 1) := by decide +kernel
theorem dX9_turned_24 : decode cX9_turned 24 = .ok (.goto 4, 3) := by decide +kernel
theorem dX9_turned_27 : decode cX9_turned 27 = .ok (.iconst 2, 1) := by decide +kernel
theorem dX9_turned_28 : decode cX9_turned 28 = .ok (.putfield 65, 3) := by decide +kernel
theorem dX9_turned_31 : decode cX9_turned 31 = .ok (.aload_n 0, 1) := by decide +kernel
theorem dX9_turned_32 : decode cX9_turned 32 = .ok (.getfield 65, 3) := by decide +kernel
theorem dX9_turned_35 : decode cX9_turned 35 = .ok (.ifCond .le 7, 3) := by decide +kernel
theorem dX9_turned_38 : decode cX9_turned 38 = .ok (.iconst 0, 1) := by decide +kernel
theorem dX9_turned_39 : decode cX9_turned 39 = .ok (.goto 22, 3) := by decide +kernel
theorem dX9_turned_42 : decode cX9_turned 42 = .ok (.iload_n 2, 1) := by decide +kernel
theorem dX9_turned_43 : decode cX9_turned 43 = .ok (.i2l, 1) := by decide +kernel
theorem dX9_turned_44 : decode cX9_turned 44 = .ok (.aload_n 0, 1) := by decide +kernel
theorem dX9_turned_45 : decode cX9_turned 45 = .ok (.iload_n 1, 1) := by decide +kernel
theorem dX9_turned_46 : decode cX9_turned 46 = .ok (.iconst 1, 1) := by decide +kernel
theorem dX9_turned_47 : decode cX9_turned 47 = .ok (.invokevirtual 97, 3) := by decide +kernel
theorem dX9_turned_50 : decode cX9_turned 50 = .ok (.i2l, 1) := by decide +kernel
theorem dX9_turned_51 : decode cX9_turned 51 = .ok (.lmul, 1) := by decide +kernel
theorem dX9_turned_52 : decode cX9_turned 52 = .ok (.aload_n 0, 1) := by decide +kernel
theorem dX9_turned_53 : decode cX9_turned 53 = .ok (.iload_n 1, 1) := by decide +kernel
theorem dX9_turned_54 : decode cX9_turned 54 = .ok (.iconst 2, 1) := by decide +kernel
theorem dX9_turned_55 : decode cX9_turned 55 = .ok (.invokevirtual 97, 3) := by decide +kernel
theorem dX9_turned_58 : decode cX9_turned 58 = .ok (.i2l, 1) := by decide +kernel
theorem dX9_turned_59 : decode cX9_turned 59 = .ok (.ldiv, 1) := by decide +kernel
theorem dX9_turned_60 : decode cX9_turned 60 = .ok (.l2i, 1) := by decide +kernel
theorem dX9_turned_61 : decode cX9_turned 61 = .ok (.ireturn, 1) := by decide +kernel
theorem dX9_turnedByWalk_0 : decode cX9_turnedByWalk 0 = .ok (.aload_n 0, 1) := by decide +kernel
theorem dX9_turnedByWalk_1 : decode cX9_turnedByWalk 1 = .ok (.iload_n 1, 1) := by decide +kernel
theorem dX9_turnedByWalk_2 : decode cX9_turnedByWalk 2 = .ok (.iload_n 2, 1) := by decide +kernel
theorem dX9_turnedByWalk_3 : decode cX9_turnedByWalk 3 = .ok (.invokevirtual 104, 3) := by decide +kernel
theorem dX9_turnedByWalk_6 : decode cX9_turnedByWalk 6 = .ok (.ireturn, 1) := by decide +kernel
theorem dX9_waits_0 : decode cX9_waits 0 = .ok (.aload_n 0, 1) := by decide +kernel
theorem dX9_waits_1 : decode cX9_waits 1 = .ok (.getfield 44, 3) := by decide +kernel
theorem dX9_waits_4 : decode cX9_waits 4 = .ok (.aload_n 0, 1) := by decide +kernel
theorem dX9_waits_5 : decode cX9_waits 5 = .ok (.getfield 107, 3) := by decide +kernel
theorem dX9_waits_8 : decode cX9_waits 8 = .ok (.iload_n 1, 1) := by decide +kernel
theorem dX9_waits_9 : decode cX9_waits 9 = .ok (.iastore, 1) := by decide +kernel
theorem dX9_waits_10 : decode cX9_waits 10 = .ok (.aload_n 0, 1) := by decide +kernel
theorem dX9_waits_11 : decode cX9_waits 11 = .ok (.getfield 47, 3) := by decide +kernel
theorem dX9_waits_14 : decode cX9_waits 14 = .ok (.aload_n 0, 1) := by decide +kernel
theorem dX9_waits_15 : decode cX9_waits 15 = .ok (.getfield 107, 3) := by decide +kernel
theorem dX9_waits_18 : decode cX9_waits 18 = .ok (.aload_n 0, 1) := by decide +kernel
theorem dX9_waits_19 : decode cX9_waits 19 = .ok (.iload_n 2, 1) := by decide +kernel
theorem dX9_waits_20 : decode cX9_waits 20 = .ok (.iload_n 3, 1) := by decide +kernel
theorem dX9_waits_21 : decode cX9_waits 21 = .ok (.invokevirtual 82, 3) := by decide +kernel
theorem dX9_waits_24 : decode cX9_waits 24 = .ok (.iastore, 1) := by decide +kernel
theorem dX9_waits_25 : decode cX9_waits 25 = .ok (.aload_n 0, 1) := by decide +kernel
theorem dX9_waits_26 : decode cX9_waits 26 = .ok (.getfield 50, 3) := by decide +kernel
theorem dX9_waits_29 : decode cX9_waits 29 = .ok (.aload_n 0, 1) := by decide +kernel
theorem dX9_waits_30 : decode cX9_waits 30 = .ok (.getfield 107, 3) := by decide +kernel
theorem dX9_waits_33 : decode cX9_waits 33 = .ok (.iload_n 3, 1) := by decide +kernel
theorem dX9_waits_34 : decode cX9_waits 34 = .ok (.iastore, 1) := by decide +kernel
theorem dX9_waits_35 : decode cX9_waits 35 = .ok (.aload_n 0, 1) := by decide +kernel
theorem dX9_waits_36 : decode cX9_waits 36 = .ok (.getfield 53, 3) := by decide +kernel
theorem dX9_waits_39 : decode cX9_waits 39 = .ok (.aload_n 0, 1) := by decide +kernel
theorem dX9_waits_40 : decode cX9_waits 40 = .ok (.getfield 107, 3) := by decide +kernel
theorem dX9_waits_43 : decode cX9_waits 43 = .ok (.iconst (-1), 1) := by decide +kernel
theorem dX9_waits_44 : decode cX9_waits 44 = .ok (.iastore, 1) := by decide +kernel
theorem dX9_waits_45 : decode cX9_waits 45 = .ok (.aload_n 0, 1) := by decide +kernel
theorem dX9_waits_46 : decode cX9_waits 46 = .ok (.dup, 1) := by decide +kernel
theorem dX9_waits_47 : decode cX9_waits 47 = .ok (.getfield 107, 3) := by decide +kernel
theorem dX9_waits_50 : decode cX9_waits 50 = .ok (.iconst 1, 1) := by decide +kernel
theorem dX9_waits_51 : decode cX9_waits 51 = .ok (.iadd, 1) := by decide +kernel
theorem dX9_waits_52 : decode cX9_waits 52 = .ok (.putfield 107, 3) := by decide +kernel
theorem dX9_waits_55 : decode cX9_waits 55 = .ok (.return_, 1) := by decide +kernel
theorem dX9_order_0 : decode cX9_order 0 = .ok (.aload_n 0, 1) := by decide +kernel
theorem dX9_order_1 : decode cX9_order 1 = .ok (.aload_n 0, 1) := by decide +kernel
theorem dX9_order_2 : decode cX9_order 2 = .ok (.iload_n 1, 1) := by decide +kernel
theorem dX9_order_3 : decode cX9_order 3 = .ok (.invokevirtual 93, 3) := by decide +kernel
theorem dX9_order_6 : decode cX9_order 6 = .ok (.ifCond .ne 7, 3) := by decide +kernel
theorem dX9_order_9 : decode cX9_order 9 = .ok (.iconst 1, 1) := by decide +kernel
theorem dX9_order_10 : decode cX9_order 10 = .ok (.goto 17, 3) := by decide +kernel
theorem dX9_order_13 : decode cX9_order 13 = .ok (.aload_n 0, 1) := by decide +kernel
theorem dX9_order_14 : decode cX9_order 14 = .ok (.getfield 76, 3) := by decide +kernel
theorem dX9_order_17 : decode cX9_order 17 = .ok (.bipush 12, 2) := by decide +kernel
theorem dX9_order_19 : decode cX9_order 19 = .ok (.if_icmp .ne 7, 3) := by decide +kernel
theorem dX9_order_22 : decode cX9_order 22 = .ok (.iconst 2, 1) := by decide +kernel
theorem dX9_order_23 : decode cX9_order 23 = .ok (.goto 4, 3) := by decide +kernel
theorem dX9_order_26 : decode cX9_order 26 = .ok (.iconst 0, 1) := by decide +kernel
theorem dX9_order_27 : decode cX9_order 27 = .ok (.putfield 65, 3) := by decide +kernel
theorem dX9_order_30 : decode cX9_order 30 = .ok (.aload_n 0, 1) := by decide +kernel
theorem dX9_order_31 : decode cX9_order 31 = .ok (.getfield 65, 3) := by decide +kernel
theorem dX9_order_34 : decode cX9_order 34 = .ok (.ifCond .le 5, 3) := by decide +kernel
theorem dX9_order_37 : decode cX9_order 37 = .ok (.iconst 0, 1) := by decide +kernel
theorem dX9_order_38 : decode cX9_order 38 = .ok (.ireturn, 1) := by decide +kernel
theorem dX9_order_39 : decode cX9_order 39 = .ok (.iconst 0, 1) := by decide +kernel
theorem dX9_order_40 : decode cX9_order 40 = .ok (.istore_n 2, 1) := by decide +kernel
theorem dX9_order_41 : decode cX9_order 41 = .ok (.iload_n 2, 1) := by decide +kernel
theorem dX9_order_42 : decode cX9_order 42 = .ok (.aload_n 0, 1) := by decide +kernel
theorem dX9_order_43 : decode cX9_order 43 = .ok (.getfield 22, 3) := by decide +kernel
theorem dX9_order_46 : decode cX9_order 46 = .ok (.iload_n 1, 1) := by decide +kernel
theorem dX9_order_47 : decode cX9_order 47 = .ok (.iaload, 1) := by decide +kernel
theorem dX9_order_48 : decode cX9_order 48 = .ok (.if_icmp .ge 62, 3) := by decide +kernel
theorem dX9_order_51 : decode cX9_order 51 = .ok (.bipush 12, 2) := by decide +kernel
theorem dX9_order_53 : decode cX9_order 53 = .ok (.iload_n 1, 1) := by decide +kernel
theorem dX9_order_54 : decode cX9_order 54 = .ok (.imul, 1) := by decide +kernel
theorem dX9_order_55 : decode cX9_order 55 = .ok (.iconst 3, 1) := by decide +kernel
theorem dX9_order_56 : decode cX9_order 56 = .ok (.iload_n 2, 1) := by decide +kernel
theorem dX9_order_57 : decode cX9_order 57 = .ok (.imul, 1) := by decide +kernel
theorem dX9_order_58 : decode cX9_order 58 = .ok (.iadd, 1) := by decide +kernel
theorem dX9_order_59 : decode cX9_order 59 = .ok (.istore_n 3, 1) := by decide +kernel
theorem dX9_order_60 : decode cX9_order 60 = .ok (.aload_n 0, 1) := by decide +kernel
theorem dX9_order_61 : decode cX9_order 61 = .ok (.aload_n 0, 1) := by decide +kernel
theorem dX9_order_62 : decode cX9_order 62 = .ok (.getfield 76, 3) := by decide +kernel
theorem dX9_order_65 : decode cX9_order 65 = .ok (.aload_n 0, 1) := by decide +kernel
theorem dX9_order_66 : decode cX9_order 66 = .ok (.getfield 25, 3) := by decide +kernel
theorem dX9_order_69 : decode cX9_order 69 = .ok (.iload_n 3, 1) := by decide +kernel
theorem dX9_order_70 : decode cX9_order 70 = .ok (.iaload, 1) := by decide +kernel
theorem dX9_order_71 : decode cX9_order 71 = .ok (.aload_n 0, 1) := by decide +kernel
theorem dX9_order_72 : decode cX9_order 72 = .ok (.getfield 25, 3) := by decide +kernel
theorem dX9_order_75 : decode cX9_order 75 = .ok (.iload_n 3, 1) := by decide +kernel
theorem dX9_order_76 : decode cX9_order 76 = .ok (.iconst 1, 1) := by decide +kernel
theorem dX9_order_77 : decode cX9_order 77 = .ok (.iadd, 1) := by decide +kernel
theorem dX9_order_78 : decode cX9_order 78 = .ok (.iaload, 1) := by decide +kernel
theorem dX9_order_79 : decode cX9_order 79 = .ok (.invokevirtual 110, 3) := by decide +kernel
theorem dX9_order_82 : decode cX9_order 82 = .ok (.aload_n 0, 1) := by decide +kernel
theorem dX9_order_83 : decode cX9_order 83 = .ok (.aload_n 0, 1) := by decide +kernel
theorem dX9_order_84 : decode cX9_order 84 = .ok (.getfield 76, 3) := by decide +kernel
theorem dX9_order_87 : decode cX9_order 87 = .ok (.aload_n 0, 1) := by decide +kernel
theorem dX9_order_88 : decode cX9_order 88 = .ok (.getfield 25, 3) := by decide +kernel
theorem dX9_order_91 : decode cX9_order 91 = .ok (.iload_n 3, 1) := by decide +kernel
theorem dX9_order_92 : decode cX9_order 92 = .ok (.iaload, 1) := by decide +kernel
theorem dX9_order_93 : decode cX9_order 93 = .ok (.aload_n 0, 1) := by decide +kernel
theorem dX9_order_94 : decode cX9_order 94 = .ok (.getfield 25, 3) := by decide +kernel
theorem dX9_order_97 : decode cX9_order 97 = .ok (.iload_n 3, 1) := by decide +kernel
theorem dX9_order_98 : decode cX9_order 98 = .ok (.iconst 2, 1) := by decide +kernel
theorem dX9_order_99 : decode cX9_order 99 = .ok (.iadd, 1) := by decide +kernel
theorem dX9_order_100 : decode cX9_order 100 = .ok (.iaload, 1) := by decide +kernel
theorem dX9_order_101 : decode cX9_order 101 = .ok (.invokevirtual 110, 3) := by decide +kernel
theorem dX9_order_104 : decode cX9_order 104 = .ok (.iinc 2 1, 3) := by decide +kernel
theorem dX9_order_107 : decode cX9_order 107 = .ok (.goto (-66), 3) := by decide +kernel
theorem dX9_order_110 : decode cX9_order 110 = .ok (.aload_n 0, 1) := by decide +kernel
theorem dX9_order_111 : decode cX9_order 111 = .ok (.getfield 31, 3) := by decide +kernel
theorem dX9_order_114 : decode cX9_order 114 = .ok (.aload_n 0, 1) := by decide +kernel
theorem dX9_order_115 : decode cX9_order 115 = .ok (.getfield 76, 3) := by decide +kernel
theorem dX9_order_118 : decode cX9_order 118 = .ok (.iload_n 1, 1) := by decide +kernel
theorem dX9_order_119 : decode cX9_order 119 = .ok (.iastore, 1) := by decide +kernel
theorem dX9_order_120 : decode cX9_order 120 = .ok (.aload_n 0, 1) := by decide +kernel
theorem dX9_order_121 : decode cX9_order 121 = .ok (.getfield 34, 3) := by decide +kernel
theorem dX9_order_124 : decode cX9_order 124 = .ok (.aload_n 0, 1) := by decide +kernel
theorem dX9_order_125 : decode cX9_order 125 = .ok (.getfield 76, 3) := by decide +kernel
theorem dX9_order_128 : decode cX9_order 128 = .ok (.iconst (-1), 1) := by decide +kernel
theorem dX9_order_129 : decode cX9_order 129 = .ok (.iastore, 1) := by decide +kernel
theorem dX9_order_130 : decode cX9_order 130 = .ok (.aload_n 0, 1) := by decide +kernel
theorem dX9_order_131 : decode cX9_order 131 = .ok (.dup, 1) := by decide +kernel
theorem dX9_order_132 : decode cX9_order 132 = .ok (.getfield 76, 3) := by decide +kernel
theorem dX9_order_135 : decode cX9_order 135 = .ok (.iconst 1, 1) := by decide +kernel
theorem dX9_order_136 : decode cX9_order 136 = .ok (.iadd, 1) := by decide +kernel
theorem dX9_order_137 : decode cX9_order 137 = .ok (.putfield 76, 3) := by decide +kernel
theorem dX9_order_140 : decode cX9_order 140 = .ok (.aload_n 0, 1) := by decide +kernel
theorem dX9_order_141 : decode cX9_order 141 = .ok (.getfield 76, 3) := by decide +kernel
theorem dX9_order_144 : decode cX9_order 144 = .ok (.iconst 1, 1) := by decide +kernel
theorem dX9_order_145 : decode cX9_order 145 = .ok (.isub, 1) := by decide +kernel
theorem dX9_order_146 : decode cX9_order 146 = .ok (.ireturn, 1) := by decide +kernel
theorem dX9_isOn_0 : decode cX9_isOn 0 = .ok (.iconst 0, 1) := by decide +kernel
theorem dX9_isOn_1 : decode cX9_isOn 1 = .ok (.istore_n 2, 1) := by decide +kernel
theorem dX9_isOn_2 : decode cX9_isOn 2 = .ok (.iconst 0, 1) := by decide +kernel
