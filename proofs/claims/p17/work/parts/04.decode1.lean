theorem dX0_init_0 : decode cX0_init 0 = .ok (.aload_n 0, 1) := by decide +kernel
theorem dX0_init_1 : decode cX0_init 1 = .ok (.invokespecial 3, 3) := by decide +kernel
theorem dX0_init_4 : decode cX0_init 4 = .ok (.aload_n 0, 1) := by decide +kernel
theorem dX0_init_5 : decode cX0_init 5 = .ok (.iconst 4, 1) := by decide +kernel
theorem dX0_init_6 : decode cX0_init 6 = .ok (.sipush 600, 3) := by decide +kernel
theorem dX0_init_9 : decode cX0_init 9 = .ok (.multianewarray 11 2, 4) := by decide +kernel
theorem dX0_init_13 : decode cX0_init 13 = .ok (.putfield 13, 3) := by decide +kernel
theorem dX0_init_16 : decode cX0_init 16 = .ok (.aload_n 0, 1) := by decide +kernel
theorem dX0_init_17 : decode cX0_init 17 = .ok (.iconst 0, 1) := by decide +kernel
theorem dX0_init_18 : decode cX0_init 18 = .ok (.putfield 16, 3) := by decide +kernel
theorem dX0_init_21 : decode cX0_init 21 = .ok (.aload_n 0, 1) := by decide +kernel
theorem dX0_init_22 : decode cX0_init 22 = .ok (.iconst 0, 1) := by decide +kernel
theorem dX0_init_23 : decode cX0_init 23 = .ok (.putfield 20, 3) := by decide +kernel
theorem dX0_init_26 : decode cX0_init 26 = .ok (.return_, 1) := by decide +kernel
theorem dX0_tell_0 : decode cX0_tell 0 = .ok (.aload_n 0, 1) := by decide +kernel
theorem dX0_tell_1 : decode cX0_tell 1 = .ok (.getfield 20, 3) := by decide +kernel
theorem dX0_tell_4 : decode cX0_tell 4 = .ok (.sipush 600, 3) := by decide +kernel
theorem dX0_tell_7 : decode cX0_tell 7 = .ok (.if_icmp .ge 54, 3) := by decide +kernel
theorem dX0_tell_10 : decode cX0_tell 10 = .ok (.aload_n 0, 1) := by decide +kernel
theorem dX0_tell_11 : decode cX0_tell 11 = .ok (.getfield 13, 3) := by decide +kernel
theorem dX0_tell_14 : decode cX0_tell 14 = .ok (.iconst 0, 1) := by decide +kernel
theorem dX0_tell_15 : decode cX0_tell 15 = .ok (.aaload, 1) := by decide +kernel
theorem dX0_tell_16 : decode cX0_tell 16 = .ok (.aload_n 0, 1) := by decide +kernel
theorem dX0_tell_17 : decode cX0_tell 17 = .ok (.getfield 20, 3) := by decide +kernel
theorem dX0_tell_20 : decode cX0_tell 20 = .ok (.iload_n 1, 1) := by decide +kernel
theorem dX0_tell_21 : decode cX0_tell 21 = .ok (.iastore, 1) := by decide +kernel
theorem dX0_tell_22 : decode cX0_tell 22 = .ok (.aload_n 0, 1) := by decide +kernel
theorem dX0_tell_23 : decode cX0_tell 23 = .ok (.getfield 13, 3) := by decide +kernel
theorem dX0_tell_26 : decode cX0_tell 26 = .ok (.iconst 1, 1) := by decide +kernel
theorem dX0_tell_27 : decode cX0_tell 27 = .ok (.aaload, 1) := by decide +kernel
theorem dX0_tell_28 : decode cX0_tell 28 = .ok (.aload_n 0, 1) := by decide +kernel
theorem dX0_tell_29 : decode cX0_tell 29 = .ok (.getfield 20, 3) := by decide +kernel
theorem dX0_tell_32 : decode cX0_tell 32 = .ok (.iload_n 2, 1) := by decide +kernel
theorem dX0_tell_33 : decode cX0_tell 33 = .ok (.iastore, 1) := by decide +kernel
theorem dX0_tell_34 : decode cX0_tell 34 = .ok (.aload_n 0, 1) := by decide +kernel
theorem dX0_tell_35 : decode cX0_tell 35 = .ok (.getfield 13, 3) := by decide +kernel
theorem dX0_tell_38 : decode cX0_tell 38 = .ok (.iconst 2, 1) := by decide +kernel
theorem dX0_tell_39 : decode cX0_tell 39 = .ok (.aaload, 1) := by decide +kernel
theorem dX0_tell_40 : decode cX0_tell 40 = .ok (.aload_n 0, 1) := by decide +kernel
theorem dX0_tell_41 : decode cX0_tell 41 = .ok (.getfield 20, 3) := by decide +kernel
theorem dX0_tell_44 : decode cX0_tell 44 = .ok (.aload_n 0, 1) := by decide +kernel
theorem dX0_tell_45 : decode cX0_tell 45 = .ok (.getfield 16, 3) := by decide +kernel
theorem dX0_tell_48 : decode cX0_tell 48 = .ok (.iastore, 1) := by decide +kernel
theorem dX0_tell_49 : decode cX0_tell 49 = .ok (.aload_n 0, 1) := by decide +kernel
theorem dX0_tell_50 : decode cX0_tell 50 = .ok (.getfield 13, 3) := by decide +kernel
theorem dX0_tell_53 : decode cX0_tell 53 = .ok (.iconst 3, 1) := by decide +kernel
theorem dX0_tell_54 : decode cX0_tell 54 = .ok (.aaload, 1) := by decide +kernel
theorem dX0_tell_55 : decode cX0_tell 55 = .ok (.aload_n 0, 1) := by decide +kernel
theorem dX0_tell_56 : decode cX0_tell 56 = .ok (.getfield 20, 3) := by decide +kernel
theorem dX0_tell_59 : decode cX0_tell 59 = .ok (.iload_n 3, 1) := by decide +kernel
theorem dX0_tell_60 : decode cX0_tell 60 = .ok (.iastore, 1) := by decide +kernel
theorem dX0_tell_61 : decode cX0_tell 61 = .ok (.aload_n 0, 1) := by decide +kernel
theorem dX0_tell_62 : decode cX0_tell 62 = .ok (.dup, 1) := by decide +kernel
theorem dX0_tell_63 : decode cX0_tell 63 = .ok (.getfield 20, 3) := by decide +kernel
theorem dX0_tell_66 : decode cX0_tell 66 = .ok (.iconst 1, 1) := by decide +kernel
theorem dX0_tell_67 : decode cX0_tell 67 = .ok (.iadd, 1) := by decide +kernel
theorem dX0_tell_68 : decode cX0_tell 68 = .ok (.putfield 20, 3) := by decide +kernel
theorem dX0_tell_71 : decode cX0_tell 71 = .ok (.return_, 1) := by decide +kernel
theorem dX0_told_0 : decode cX0_told 0 = .ok (.iload_n 1, 1) := by decide +kernel
theorem dX0_told_1 : decode cX0_told 1 = .ok (.ifCond .lt 31, 3) := by decide +kernel
theorem dX0_told_4 : decode cX0_told 4 = .ok (.iload_n 1, 1) := by decide +kernel
theorem dX0_told_5 : decode cX0_told 5 = .ok (.aload_n 0, 1) := by decide +kernel
theorem dX0_told_6 : decode cX0_told 6 = .ok (.getfield 20, 3) := by decide +kernel
theorem dX0_told_9 : decode cX0_told 9 = .ok (.if_icmp .ge 23, 3) := by decide +kernel
theorem dX0_told_12 : decode cX0_told 12 = .ok (.iload_n 1, 1) := by decide +kernel
theorem dX0_told_13 : decode cX0_told 13 = .ok (.sipush 600, 3) := by decide +kernel
theorem dX0_told_16 : decode cX0_told 16 = .ok (.if_icmp .ge 16, 3) := by decide +kernel
theorem dX0_told_19 : decode cX0_told 19 = .ok (.iload_n 2, 1) := by decide +kernel
theorem dX0_told_20 : decode cX0_told 20 = .ok (.ifCond .lt 12, 3) := by decide +kernel
theorem dX0_told_23 : decode cX0_told 23 = .ok (.iload_n 2, 1) := by decide +kernel
theorem dX0_told_24 : decode cX0_told 24 = .ok (.iconst 4, 1) := by decide +kernel
theorem dX0_told_25 : decode cX0_told 25 = .ok (.if_icmp .ge 7, 3) := by decide +kernel
theorem dX0_told_28 : decode cX0_told 28 = .ok (.iconst 1, 1) := by decide +kernel
theorem dX0_told_29 : decode cX0_told 29 = .ok (.goto 4, 3) := by decide +kernel
theorem dX0_told_32 : decode cX0_told 32 = .ok (.iconst 0, 1) := by decide +kernel
theorem dX0_told_33 : decode cX0_told 33 = .ok (.istore_n 3, 1) := by decide +kernel
theorem dX0_told_34 : decode cX0_told 34 = .ok (.iload_n 3, 1) := by decide +kernel
theorem dX0_told_35 : decode cX0_told 35 = .ok (.ifCond .eq 14, 3) := by decide +kernel
theorem dX0_told_38 : decode cX0_told 38 = .ok (.aload_n 0, 1) := by decide +kernel
theorem dX0_told_39 : decode cX0_told 39 = .ok (.getfield 13, 3) := by decide +kernel
theorem dX0_told_42 : decode cX0_told 42 = .ok (.iload_n 2, 1) := by decide +kernel
theorem dX0_told_43 : decode cX0_told 43 = .ok (.aaload, 1) := by decide +kernel
theorem dX0_told_44 : decode cX0_told 44 = .ok (.iload_n 1, 1) := by decide +kernel
theorem dX0_told_45 : decode cX0_told 45 = .ok (.iaload, 1) := by decide +kernel
theorem dX0_told_46 : decode cX0_told 46 = .ok (.goto 4, 3) := by decide +kernel
theorem dX0_told_49 : decode cX0_told 49 = .ok (.iconst (-1), 1) := by decide +kernel
theorem dX0_told_50 : decode cX0_told 50 = .ok (.ireturn, 1) := by decide +kernel
theorem dX1_init_0 : decode cX1_init 0 = .ok (.aload_n 0, 1) := by decide +kernel
theorem dX1_init_1 : decode cX1_init 1 = .ok (.iload_n 1, 1) := by decide +kernel
theorem dX1_init_2 : decode cX1_init 2 = .ok (.aload_n 2, 1) := by decide +kernel
theorem dX1_init_3 : decode cX1_init 3 = .ok (.iload_n 3, 1) := by decide +kernel
theorem dX1_init_4 : decode cX1_init 4 = .ok (.invokespecial 3, 3) := by decide +kernel
theorem dX1_init_7 : decode cX1_init 7 = .ok (.aload_n 0, 1) := by decide +kernel
theorem dX1_init_8 : decode cX1_init 8 = .ok (.new 9, 3) := by decide +kernel
theorem dX1_init_11 : decode cX1_init 11 = .ok (.dup, 1) := by decide +kernel
theorem dX1_init_12 : decode cX1_init 12 = .ok (.invokespecial 11, 3) := by decide +kernel
theorem dX1_init_15 : decode cX1_init 15 = .ok (.putfield 14, 3) := by decide +kernel
theorem dX1_init_18 : decode cX1_init 18 = .ok (.aload_n 0, 1) := by decide +kernel
theorem dX1_init_19 : decode cX1_init 19 = .ok (.new 20, 3) := by decide +kernel
theorem dX1_init_22 : decode cX1_init 22 = .ok (.dup, 1) := by decide +kernel
theorem dX1_init_23 : decode cX1_init 23 = .ok (.invokespecial 22, 3) := by decide +kernel
theorem dX1_init_26 : decode cX1_init 26 = .ok (.putfield 23, 3) := by decide +kernel
theorem dX1_init_29 : decode cX1_init 29 = .ok (.aload_n 0, 1) := by decide +kernel
theorem dX1_init_30 : decode cX1_init 30 = .ok (.iload 4, 2) := by decide +kernel
theorem dX1_init_32 : decode cX1_init 32 = .ok (.putfield 27, 3) := by decide +kernel
theorem dX1_init_35 : decode cX1_init 35 = .ok (.aload_n 0, 1) := by decide +kernel
theorem dX1_init_36 : decode cX1_init 36 = .ok (.iload 5, 2) := by decide +kernel
theorem dX1_init_38 : decode cX1_init 38 = .ok (.putfield 31, 3) := by decide +kernel
theorem dX1_init_41 : decode cX1_init 41 = .ok (.aload_n 0, 1) := by decide +kernel
theorem dX1_init_42 : decode cX1_init 42 = .ok (.iload 6, 2) := by decide +kernel
theorem dX1_init_44 : decode cX1_init 44 = .ok (.putfield 34, 3) := by decide +kernel
theorem dX1_init_47 : decode cX1_init 47 = .ok (.return_, 1) := by decide +kernel
theorem dX1_rise_0 : decode cX1_rise 0 = .ok (.aload_n 0, 1) := by decide +kernel
theorem dX1_rise_1 : decode cX1_rise 1 = .ok (.getfield 23, 3) := by decide +kernel
theorem dX1_rise_4 : decode cX1_rise 4 = .ok (.invokevirtual 37, 3) := by decide +kernel
theorem dX1_rise_7 : decode cX1_rise 7 = .ok (.aload_n 0, 1) := by decide +kernel
theorem dX1_rise_8 : decode cX1_rise 8 = .ok (.iconst 0, 1) := by decide +kernel
theorem dX1_rise_9 : decode cX1_rise 9 = .ok (.aload_n 1, 1) := by decide +kernel
theorem dX1_rise_10 : decode cX1_rise 10 = .ok (.invokevirtual 40, 3) := by decide +kernel
theorem dX1_rise_13 : decode cX1_rise 13 = .ok (.ifnull 7, 3) := by decide +kernel
theorem dX1_rise_16 : decode cX1_rise 16 = .ok (.iconst 1, 1) := by decide +kernel
theorem dX1_rise_17 : decode cX1_rise 17 = .ok (.goto 4, 3) := by decide +kernel
theorem dX1_rise_20 : decode cX1_rise 20 = .ok (.iconst 0, 1) := by decide +kernel
theorem dX1_rise_21 : decode cX1_rise 21 = .ok (.istore_n 2, 1) := by decide +kernel
theorem dX1_rise_22 : decode cX1_rise 22 = .ok (.iload_n 2, 1) := by decide +kernel
theorem dX1_rise_23 : decode cX1_rise 23 = .ok (.ifCond .eq 8, 3) := by decide +kernel
theorem dX1_rise_26 : decode cX1_rise 26 = .ok (.aload_n 0, 1) := by decide +kernel
theorem dX1_rise_27 : decode cX1_rise 27 = .ok (.aload_n 1, 1) := by decide +kernel
theorem dX1_rise_28 : decode cX1_rise 28 = .ok (.invokevirtual 44, 3) := by decide +kernel
theorem dX1_rise_31 : decode cX1_rise 31 = .ok (.aload_n 0, 1) := by decide +kernel
theorem dX1_rise_32 : decode cX1_rise 32 = .ok (.iload_n 2, 1) := by decide +kernel
theorem dX1_rise_33 : decode cX1_rise 33 = .ok (.aload_n 1, 1) := by decide +kernel
theorem dX1_rise_34 : decode cX1_rise 34 = .ok (.invokevirtual 48, 3) := by decide +kernel
theorem dX1_rise_37 : decode cX1_rise 37 = .ok (.ireturn, 1) := by decide +kernel
theorem dX1_fall_0 : decode cX1_fall 0 = .ok (.aload_n 0, 1) := by decide +kernel
theorem dX1_fall_1 : decode cX1_fall 1 = .ok (.aload_n 1, 1) := by decide +kernel
theorem dX1_fall_2 : decode cX1_fall 2 = .ok (.invokevirtual 44, 3) := by decide +kernel
theorem dX1_fall_5 : decode cX1_fall 5 = .ok (.aload_n 0, 1) := by decide +kernel
theorem dX1_fall_6 : decode cX1_fall 6 = .ok (.iconst 0, 1) := by decide +kernel
theorem dX1_fall_7 : decode cX1_fall 7 = .ok (.putfield 52, 3) := by decide +kernel
theorem dX1_fall_10 : decode cX1_fall 10 = .ok (.aload_n 1, 1) := by decide +kernel
theorem dX1_fall_11 : decode cX1_fall 11 = .ok (.iconst 3, 1) := by decide +kernel
theorem dX1_fall_12 : decode cX1_fall 12 = .ok (.aload_n 0, 1) := by decide +kernel
theorem dX1_fall_13 : decode cX1_fall 13 = .ok (.getfield 55, 3) := by decide +kernel
theorem dX1_fall_16 : decode cX1_fall 16 = .ok (.iconst 0, 1) := by decide +kernel
theorem dX1_fall_17 : decode cX1_fall 17 = .ok (.invokevirtual 58, 3) := by decide +kernel
theorem dX1_fall_20 : decode cX1_fall 20 = .ok (.return_, 1) := by decide +kernel
theorem dX1_perish_0 : decode cX1_perish 0 = .ok (.iconst 1, 1) := by decide +kernel
theorem dX1_perish_1 : decode cX1_perish 1 = .ok (.istore_n 2, 1) := by decide +kernel
theorem dX1_perish_2 : decode cX1_perish 2 = .ok (.aload_n 0, 1) := by decide +kernel
theorem dX1_perish_3 : decode cX1_perish 3 = .ok (.getfield 14, 3) := by decide +kernel
theorem dX1_perish_6 : decode cX1_perish 6 = .ok (.invokevirtual 64, 3) := by decide +kernel
theorem dX1_perish_9 : decode cX1_perish 9 = .ok (.iconst 1, 1) := by decide +kernel
theorem dX1_perish_10 : decode cX1_perish 10 = .ok (.isub, 1) := by decide +kernel
theorem dX1_perish_11 : decode cX1_perish 11 = .ok (.istore_n 3, 1) := by decide +kernel
theorem dX1_perish_12 : decode cX1_perish 12 = .ok (.iload_n 3, 1) := by decide +kernel
theorem dX1_perish_13 : decode cX1_perish 13 = .ok (.ifCond .lt 40, 3) := by decide +kernel
theorem dX1_perish_16 : decode cX1_perish 16 = .ok (.aload_n 0, 1) := by decide +kernel
theorem dX1_perish_17 : decode cX1_perish 17 = .ok (.getfield 14, 3) := by decide +kernel
theorem dX1_perish_20 : decode cX1_perish 20 = .ok (.iload_n 3, 1) := by decide +kernel
theorem dX1_perish_21 : decode cX1_perish 21 = .ok (.invokevirtual 68, 3) := by decide +kernel
theorem dX1_perish_24 : decode cX1_perish 24 = .ok (.checkcast 4, 3) := by decide +kernel
theorem dX1_perish_27 : decode cX1_perish 27 = .ok (.astore 4, 2) := by decide +kernel
theorem dX1_perish_29 : decode cX1_perish 29 = .ok (.aload 4, 2) := by decide +kernel
theorem dX1_perish_31 : decode cX1_perish 31 = .ok (.getfield 72, 3) := by decide +kernel
theorem dX1_perish_34 : decode cX1_perish 34 = .ok (.iconst 1, 1) := by decide +kernel
theorem dX1_perish_35 : decode cX1_perish 35 = .ok (.if_icmp .ne 12, 3) := by decide +kernel
theorem dX1_perish_38 : decode cX1_perish 38 = .ok (.iload_n 2, 1) := by decide +kernel
theorem dX1_perish_39 : decode cX1_perish 39 = .ok (.aload 4, 2) := by decide +kernel
theorem dX1_perish_41 : decode cX1_perish 41 = .ok (.aload_n 1, 1) := by decide +kernel
theorem dX1_perish_42 : decode cX1_perish 42 = .ok (.invokevirtual 73, 3) := by decide +kernel
theorem dX1_perish_45 : decode cX1_perish 45 = .ok (.iadd, 1) := by decide +kernel
theorem dX1_perish_46 : decode cX1_perish 46 = .ok (.istore_n 2, 1) := by decide +kernel
theorem dX1_perish_47 : decode cX1_perish 47 = .ok (.iinc 3 (-1), 3) := by decide +kernel
theorem dX1_perish_50 : decode cX1_perish 50 = .ok (.goto (-38), 3) := by decide +kernel
theorem dX1_perish_53 : decode cX1_perish 53 = .ok (.aload_n 0, 1) := by decide +kernel
theorem dX1_perish_54 : decode cX1_perish 54 = .ok (.iconst 0, 1) := by decide +kernel
theorem dX1_perish_55 : decode cX1_perish 55 = .ok (.putfield 52, 3) := by decide +kernel
theorem dX1_perish_58 : decode cX1_perish 58 = .ok (.aload_n 1, 1) := by decide +kernel
theorem dX1_perish_59 : decode cX1_perish 59 = .ok (.iconst 4, 1) := by decide +kernel
theorem dX1_perish_60 : decode cX1_perish 60 = .ok (.aload_n 0, 1) := by decide +kernel
theorem dX1_perish_61 : decode cX1_perish 61 = .ok (.getfield 55, 3) := by decide +kernel
theorem dX1_perish_64 : decode cX1_perish 64 = .ok (.iconst 0, 1) := by decide +kernel
theorem dX1_perish_65 : decode cX1_perish 65 = .ok (.invokevirtual 58, 3) := by decide +kernel
theorem dX1_perish_68 : decode cX1_perish 68 = .ok (.iload_n 2, 1) := by decide +kernel
theorem dX1_perish_69 : decode cX1_perish 69 = .ok (.ireturn, 1) := by decide +kernel
theorem dX1_vanish_0 : decode cX1_vanish 0 = .ok (.aload_n 0, 1) := by decide +kernel
theorem dX1_vanish_1 : decode cX1_vanish 1 = .ok (.iconst 2, 1) := by decide +kernel
theorem dX1_vanish_2 : decode cX1_vanish 2 = .ok (.putfield 52, 3) := by decide +kernel
theorem dX1_vanish_5 : decode cX1_vanish 5 = .ok (.iconst 1, 1) := by decide +kernel
theorem dX1_vanish_6 : decode cX1_vanish 6 = .ok (.istore_n 1, 1) := by decide +kernel
theorem dX1_vanish_7 : decode cX1_vanish 7 = .ok (.iconst 0, 1) := by decide +kernel
theorem dX1_vanish_8 : decode cX1_vanish 8 = .ok (.istore_n 2, 1) := by decide +kernel
theorem dX1_vanish_9 : decode cX1_vanish 9 = .ok (.iload_n 2, 1) := by decide +kernel
theorem dX1_vanish_10 : decode cX1_vanish 10 = .ok (.aload_n 0, 1) := by decide +kernel
theorem dX1_vanish_11 : decode cX1_vanish 11 = .ok (.getfield 14, 3) := by decide +kernel
theorem dX1_vanish_14 : decode cX1_vanish 14 = .ok (.invokevirtual 64, 3) := by decide +kernel
theorem dX1_vanish_17 : decode cX1_vanish 17 = .ok (.if_icmp .ge 26, 3) := by decide +kernel
theorem dX1_vanish_20 : decode cX1_vanish 20 = .ok (.iload_n 1, 1) := by decide +kernel
theorem dX1_vanish_21 : decode cX1_vanish 21 = .ok (.aload_n 0, 1) := by decide +kernel
theorem dX1_vanish_22 : decode cX1_vanish 22 = .ok (.getfield 14, 3) := by decide +kernel
theorem dX1_vanish_25 : decode cX1_vanish 25 = .ok (.iload_n 2, 1) := by decide +kernel
theorem dX1_vanish_26 : decode cX1_vanish 26 = .ok (.invokevirtual 68, 3) := by decide +kernel
theorem dX1_vanish_29 : decode cX1_vanish 29 = .ok (.checkcast 4, 3) := by decide +kernel
theorem dX1_vanish_32 : decode cX1_vanish 32 = .ok (.invokevirtual 77, 3) := by decide +kernel
theorem dX1_vanish_35 : decode cX1_vanish 35 = .ok (.iadd, 1) := by decide +kernel
theorem dX1_vanish_36 : decode cX1_vanish 36 = .ok (.istore_n 1, 1) := by decide +kernel
theorem dX1_vanish_37 : decode cX1_vanish 37 = .ok (.iinc 2 1, 3) := by decide +kernel
theorem dX1_vanish_40 : decode cX1_vanish 40 = .ok (.goto (-31), 3) := by decide +kernel
theorem dX1_vanish_43 : decode cX1_vanish 43 = .ok (.iload_n 1, 1) := by decide +kernel
theorem dX1_vanish_44 : decode cX1_vanish 44 = .ok (.ireturn, 1) := by decide +kernel
theorem dX1_placeOf_0 : decode cX1_placeOf 0 = .ok (.iconst 0, 1) := by decide +kernel
theorem dX1_placeOf_1 : decode cX1_placeOf 1 = .ok (.istore_n 2, 1) := by decide +kernel
theorem dX1_placeOf_2 : decode cX1_placeOf 2 = .ok (.iload_n 2, 1) := by decide +kernel
theorem dX1_placeOf_3 : decode cX1_placeOf 3 = .ok (.aload_n 0, 1) := by decide +kernel
theorem dX1_placeOf_4 : decode cX1_placeOf 4 = .ok (.getfield 14, 3) := by decide +kernel
theorem dX1_placeOf_7 : decode cX1_placeOf 7 = .ok (.invokevirtual 64, 3) := by decide +kernel
theorem dX1_placeOf_10 : decode cX1_placeOf 10 = .ok (.if_icmp .ge 23, 3) := by decide +kernel
theorem dX1_placeOf_13 : decode cX1_placeOf 13 = .ok (.aload_n 0, 1) := by decide +kernel
theorem dX1_placeOf_14 : decode cX1_placeOf 14 = .ok (.getfield 14, 3) := by decide +kernel
theorem dX1_placeOf_17 : decode cX1_placeOf 17 = .ok (.iload_n 2, 1) := by decide +kernel
theorem dX1_placeOf_18 : decode cX1_placeOf 18 = .ok (.invokevirtual 68, 3) := by decide +kernel
theorem dX1_placeOf_21 : decode cX1_placeOf 21 = .ok (.aload_n 1, 1) := by decide +kernel
theorem dX1_placeOf_22 : decode cX1_placeOf 22 = .ok (.if_acmp .ne 5, 3) := by decide +kernel
theorem dX1_placeOf_25 : decode cX1_placeOf 25 = .ok (.iload_n 2, 1) := by decide +kernel
theorem dX1_placeOf_26 : decode cX1_placeOf 26 = .ok (.ireturn, 1) := by decide +kernel
theorem dX1_placeOf_27 : decode cX1_placeOf 27 = .ok (.iinc 2 1, 3) := by decide +kernel
theorem dX1_placeOf_30 : decode cX1_placeOf 30 = .ok (.goto (-28), 3) := by decide +kernel
theorem dX1_placeOf_33 : decode cX1_placeOf 33 = .ok (.iconst (-1), 1) := by decide +kernel
theorem dX1_placeOf_34 : decode cX1_placeOf 34 = .ok (.ireturn, 1) := by decide +kernel
theorem dX1_recentRestarts_0 : decode cX1_recentRestarts 0 = .ok (.aload_n 0, 1) := by decide +kernel
theorem dX1_recentRestarts_1 : decode cX1_recentRestarts 1 = .ok (.getfield 23, 3) := by decide +kernel
theorem dX1_recentRestarts_4 : decode cX1_recentRestarts 4 = .ok (.iload_n 1, 1) := by decide +kernel
theorem dX1_recentRestarts_5 : decode cX1_recentRestarts 5 = .ok (.aload_n 0, 1) := by decide +kernel
theorem dX1_recentRestarts_6 : decode cX1_recentRestarts 6 = .ok (.getfield 34, 3) := by decide +kernel
theorem dX1_recentRestarts_9 : decode cX1_recentRestarts 9 = .ok (.isub, 1) := by decide +kernel
theorem dX1_recentRestarts_10 : decode cX1_recentRestarts 10 = .ok (.invokevirtual 80, 3) := by decide +kernel
theorem dX1_recentRestarts_13 : decode cX1_recentRestarts 13 = .ok (.ireturn, 1) := by decide +kernel
theorem dX1_giveUp_0 : decode cX1_giveUp 0 = .ok (.aload_n 1, 1) := by decide +kernel
theorem dX1_giveUp_1 : decode cX1_giveUp 1 = .ok (.bipush 6, 2) := by decide +kernel
theorem dX1_giveUp_3 : decode cX1_giveUp 3 = .ok (.aload_n 0, 1) := by decide +kernel
theorem dX1_giveUp_4 : decode cX1_giveUp 4 = .ok (.getfield 55, 3) := by decide +kernel
theorem dX1_giveUp_7 : decode cX1_giveUp 7 = .ok (.iconst 0, 1) := by decide +kernel
theorem dX1_giveUp_8 : decode cX1_giveUp 8 = .ok (.invokevirtual 58, 3) := by decide +kernel
theorem dX1_giveUp_11 : decode cX1_giveUp 11 = .ok (.aload_n 0, 1) := by decide +kernel
theorem dX1_giveUp_12 : decode cX1_giveUp 12 = .ok (.aload_n 1, 1) := by decide +kernel
theorem dX1_giveUp_13 : decode cX1_giveUp 13 = .ok (.invokevirtual 44, 3) := by decide +kernel
theorem dX1_giveUp_16 : decode cX1_giveUp 16 = .ok (.aload_n 0, 1) := by decide +kernel
theorem dX1_giveUp_17 : decode cX1_giveUp 17 = .ok (.iconst 0, 1) := by decide +kernel
theorem dX1_giveUp_18 : decode cX1_giveUp 18 = .ok (.putfield 52, 3) := by decide +kernel
theorem dX1_giveUp_21 : decode cX1_giveUp 21 = .ok (.return_, 1) := by decide +kernel
theorem dX1_release_0 : decode cX1_release 0 = .ok (.aload_n 1, 1) := by decide +kernel
theorem dX1_release_1 : decode cX1_release 1 = .ok (.aload_n 2, 1) := by decide +kernel
theorem dX1_release_2 : decode cX1_release 2 = .ok (.invokevirtual 84, 3) := by decide +kernel
theorem dX1_release_5 : decode cX1_release 5 = .ok (.aload_n 1, 1) := by decide +kernel
theorem dX1_release_6 : decode cX1_release 6 = .ok (.getfield 87, 3) := by decide +kernel
theorem dX1_release_9 : decode cX1_release 9 = .ok (.iconst 2, 1) := by decide +kernel
theorem dX1_release_10 : decode cX1_release 10 = .ok (.if_icmp .ne 10, 3) := by decide +kernel
theorem dX1_release_13 : decode cX1_release 13 = .ok (.aload_n 0, 1) := by decide +kernel
theorem dX1_release_14 : decode cX1_release 14 = .ok (.aload_n 1, 1) := by decide +kernel
theorem dX1_release_15 : decode cX1_release 15 = .ok (.aload_n 2, 1) := by decide +kernel
theorem dX1_release_16 : decode cX1_release 16 = .ok (.invokevirtual 90, 3) := by decide +kernel
theorem dX1_release_19 : decode cX1_release 19 = .ok (.pop, 1) := by decide +kernel
theorem dX1_release_20 : decode cX1_release 20 = .ok (.return_, 1) := by decide +kernel
theorem dX1_dismiss_0 : decode cX1_dismiss 0 = .ok (.aload_n 0, 1) := by decide +kernel
theorem dX1_dismiss_1 : decode cX1_dismiss 1 = .ok (.aload_n 1, 1) := by decide +kernel
theorem dX1_dismiss_2 : decode cX1_dismiss 2 = .ok (.invokevirtual 94, 3) := by decide +kernel
theorem dX1_dismiss_5 : decode cX1_dismiss 5 = .ok (.istore_n 3, 1) := by decide +kernel
theorem dX1_dismiss_6 : decode cX1_dismiss 6 = .ok (.iload_n 3, 1) := by decide +kernel
theorem dX1_dismiss_7 : decode cX1_dismiss 7 = .ok (.ifCond .lt 23, 3) := by decide +kernel
theorem dX1_dismiss_10 : decode cX1_dismiss 10 = .ok (.iload_n 3, 1) := by decide +kernel
theorem dX1_dismiss_11 : decode cX1_dismiss 11 = .ok (.aload_n 0, 1) := by decide +kernel
theorem dX1_dismiss_12 : decode cX1_dismiss 12 = .ok (.getfield 14, 3) := by decide +kernel
theorem dX1_dismiss_15 : decode cX1_dismiss 15 = .ok (.invokevirtual 64, 3) := by decide +kernel
theorem dX1_dismiss_18 : decode cX1_dismiss 18 = .ok (.if_icmp .ge 12, 3) := by decide +kernel
theorem dX1_dismiss_21 : decode cX1_dismiss 21 = .ok (.aload_n 0, 1) := by decide +kernel
theorem dX1_dismiss_22 : decode cX1_dismiss 22 = .ok (.getfield 14, 3) := by decide +kernel
theorem dX1_dismiss_25 : decode cX1_dismiss 25 = .ok (.iload_n 3, 1) := by decide +kernel
theorem dX1_dismiss_26 : decode cX1_dismiss 26 = .ok (.invokevirtual 98, 3) := by decide +kernel
theorem dX1_dismiss_29 : decode cX1_dismiss 29 = .ok (.pop, 1) := by decide +kernel
theorem dX1_dismiss_30 : decode cX1_dismiss 30 = .ok (.aload_n 2, 1) := by decide +kernel
theorem dX1_dismiss_31 : decode cX1_dismiss 31 = .ok (.bipush 7, 2) := by decide +kernel
theorem dX1_dismiss_33 : decode cX1_dismiss 33 = .ok (.aload_n 1, 1) := by decide +kernel
theorem dX1_dismiss_34 : decode cX1_dismiss 34 = .ok (.getfield 101, 3) := by decide +kernel
theorem dX1_dismiss_37 : decode cX1_dismiss 37 = .ok (.iconst 0, 1) := by decide +kernel
theorem dX1_dismiss_38 : decode cX1_dismiss 38 = .ok (.invokevirtual 58, 3) := by decide +kernel
theorem dX1_dismiss_41 : decode cX1_dismiss 41 = .ok (.aload_n 1, 1) := by decide +kernel
theorem dX1_dismiss_42 : decode cX1_dismiss 42 = .ok (.invokevirtual 77, 3) := by decide +kernel
theorem dX1_dismiss_45 : decode cX1_dismiss 45 = .ok (.ireturn, 1) := by decide +kernel
theorem dX1_releaseFrom_0 : decode cX1_releaseFrom 0 = .ok (.aload_n 0, 1) := by decide +kernel
theorem dX1_releaseFrom_1 : decode cX1_releaseFrom 1 = .ok (.getfield 14, 3) := by decide +kernel
theorem dX1_releaseFrom_4 : decode cX1_releaseFrom 4 = .ok (.invokevirtual 64, 3) := by decide +kernel
theorem dX1_releaseFrom_7 : decode cX1_releaseFrom 7 = .ok (.iconst 1, 1) := by decide +kernel
theorem dX1_releaseFrom_8 : decode cX1_releaseFrom 8 = .ok (.isub, 1) := by decide +kernel
theorem dX1_releaseFrom_9 : decode cX1_releaseFrom 9 = .ok (.istore_n 3, 1) := by decide +kernel
theorem dX1_releaseFrom_10 : decode cX1_releaseFrom 10 = .ok (.iload_n 3, 1) := by decide +kernel
theorem dX1_releaseFrom_11 : decode cX1_releaseFrom 11 = .ok (.ifCond .lt 43, 3) := by decide +kernel
theorem dX1_releaseFrom_14 : decode cX1_releaseFrom 14 = .ok (.iload_n 3, 1) := by decide +kernel
theorem dX1_releaseFrom_15 : decode cX1_releaseFrom 15 = .ok (.iload_n 1, 1) := by decide +kernel
theorem dX1_releaseFrom_16 : decode cX1_releaseFrom 16 = .ok (.if_icmp .lt 38, 3) := by decide +kernel
theorem dX1_releaseFrom_19 : decode cX1_releaseFrom 19 = .ok (.aload_n 0, 1) := by decide +kernel
theorem dX1_releaseFrom_20 : decode cX1_releaseFrom 20 = .ok (.getfield 14, 3) := by decide +kernel
theorem dX1_releaseFrom_23 : decode cX1_releaseFrom 23 = .ok (.iload_n 3, 1) := by decide +kernel
theorem dX1_releaseFrom_24 : decode cX1_releaseFrom 24 = .ok (.invokevirtual 68, 3) := by decide +kernel
theorem dX1_releaseFrom_27 : decode cX1_releaseFrom 27 = .ok (.checkcast 4, 3) := by decide +kernel
theorem dX1_releaseFrom_30 : decode cX1_releaseFrom 30 = .ok (.astore 4, 2) := by decide +kernel
theorem dX1_releaseFrom_32 : decode cX1_releaseFrom 32 = .ok (.aload 4, 2) := by decide +kernel
theorem dX1_releaseFrom_34 : decode cX1_releaseFrom 34 = .ok (.getfield 72, 3) := by decide +kernel
theorem dX1_releaseFrom_37 : decode cX1_releaseFrom 37 = .ok (.iconst 1, 1) := by decide +kernel
theorem dX1_releaseFrom_38 : decode cX1_releaseFrom 38 = .ok (.if_icmp .ne 10, 3) := by decide +kernel
theorem dX1_releaseFrom_41 : decode cX1_releaseFrom 41 = .ok (.aload_n 0, 1) := by decide +kernel
theorem dX1_releaseFrom_42 : decode cX1_releaseFrom 42 = .ok (.aload 4, 2) := by decide +kernel
theorem dX1_releaseFrom_44 : decode cX1_releaseFrom 44 = .ok (.aload_n 2, 1) := by decide +kernel
theorem dX1_releaseFrom_45 : decode cX1_releaseFrom 45 = .ok (.invokevirtual 102, 3) := by decide +kernel
theorem dX1_releaseFrom_48 : decode cX1_releaseFrom 48 = .ok (.iinc 3 (-1), 3) := by decide +kernel
theorem dX1_releaseFrom_51 : decode cX1_releaseFrom 51 = .ok (.goto (-41), 3) := by decide +kernel
theorem dX1_releaseFrom_54 : decode cX1_releaseFrom 54 = .ok (.return_, 1) := by decide +kernel
theorem dX1_riseFrom_0 : decode cX1_riseFrom 0 = .ok (.iconst 0, 1) := by decide +kernel
theorem dX1_riseFrom_1 : decode cX1_riseFrom 1 = .ok (.iload_n 1, 1) := by decide +kernel
theorem dX1_riseFrom_2 : decode cX1_riseFrom 2 = .ok (.invokestatic 106, 3) := by decide +kernel
theorem dX1_riseFrom_5 : decode cX1_riseFrom 5 = .ok (.istore_n 3, 1) := by decide +kernel
theorem dX1_riseFrom_6 : decode cX1_riseFrom 6 = .ok (.iload_n 3, 1) := by decide +kernel
theorem dX1_riseFrom_7 : decode cX1_riseFrom 7 = .ok (.aload_n 0, 1) := by decide +kernel
theorem dX1_riseFrom_8 : decode cX1_riseFrom 8 = .ok (.getfield 14, 3) := by decide +kernel
theorem dX1_riseFrom_11 : decode cX1_riseFrom 11 = .ok (.invokevirtual 64, 3) := by decide +kernel
theorem dX1_riseFrom_14 : decode cX1_riseFrom 14 = .ok (.if_icmp .ge 34, 3) := by decide +kernel
theorem dX1_riseFrom_17 : decode cX1_riseFrom 17 = .ok (.aload_n 0, 1) := by decide +kernel
theorem dX1_riseFrom_18 : decode cX1_riseFrom 18 = .ok (.getfield 14, 3) := by decide +kernel
theorem dX1_riseFrom_21 : decode cX1_riseFrom 21 = .ok (.iload_n 3, 1) := by decide +kernel
theorem dX1_riseFrom_22 : decode cX1_riseFrom 22 = .ok (.invokevirtual 68, 3) := by decide +kernel
theorem dX1_riseFrom_25 : decode cX1_riseFrom 25 = .ok (.checkcast 4, 3) := by decide +kernel
theorem dX1_riseFrom_28 : decode cX1_riseFrom 28 = .ok (.astore 4, 2) := by decide +kernel
theorem dX1_riseFrom_30 : decode cX1_riseFrom 30 = .ok (.aload 4, 2) := by decide +kernel
theorem dX1_riseFrom_32 : decode cX1_riseFrom 32 = .ok (.aload_n 2, 1) := by decide +kernel
theorem dX1_riseFrom_33 : decode cX1_riseFrom 33 = .ok (.invokevirtual 112, 3) := by decide +kernel
theorem dX1_riseFrom_36 : decode cX1_riseFrom 36 = .ok (.ifCond .ne 6, 3) := by decide +kernel
theorem dX1_riseFrom_39 : decode cX1_riseFrom 39 = .ok (.aload 4, 2) := by decide +kernel
theorem dX1_riseFrom_41 : decode cX1_riseFrom 41 = .ok (.areturn, 1) := by decide +kernel
theorem dX1_riseFrom_42 : decode cX1_riseFrom 42 = .ok (.iinc 3 1, 3) := by decide +kernel
theorem dX1_riseFrom_45 : decode cX1_riseFrom 45 = .ok (.goto (-39), 3) := by decide +kernel
theorem dX1_riseFrom_48 : decode cX1_riseFrom 48 = .ok (.aconst_null, 1) := by decide +kernel
theorem dX1_riseFrom_49 : decode cX1_riseFrom 49 = .ok (.areturn, 1) := by decide +kernel
theorem dX1_fallAll_0 : decode cX1_fallAll 0 = .ok (.aload_n 0, 1) := by decide +kernel
theorem dX1_fallAll_1 : decode cX1_fallAll 1 = .ok (.getfield 14, 3) := by decide +kernel
theorem dX1_fallAll_4 : decode cX1_fallAll 4 = .ok (.invokevirtual 64, 3) := by decide +kernel
theorem dX1_fallAll_7 : decode cX1_fallAll 7 = .ok (.iconst 1, 1) := by decide +kernel
theorem dX1_fallAll_8 : decode cX1_fallAll 8 = .ok (.isub, 1) := by decide +kernel
theorem dX1_fallAll_9 : decode cX1_fallAll 9 = .ok (.istore_n 2, 1) := by decide +kernel
theorem dX1_fallAll_10 : decode cX1_fallAll 10 = .ok (.iload_n 2, 1) := by decide +kernel
theorem dX1_fallAll_11 : decode cX1_fallAll 11 = .ok (.ifCond .lt 34, 3) := by decide +kernel
theorem dX1_fallAll_14 : decode cX1_fallAll 14 = .ok (.aload_n 0, 1) := by decide +kernel
theorem dX1_fallAll_15 : decode cX1_fallAll 15 = .ok (.getfield 14, 3) := by decide +kernel
theorem dX1_fallAll_18 : decode cX1_fallAll 18 = .ok (.iload_n 2, 1) := by decide +kernel
theorem dX1_fallAll_19 : decode cX1_fallAll 19 = .ok (.invokevirtual 68, 3) := by decide +kernel
theorem dX1_fallAll_22 : decode cX1_fallAll 22 = .ok (.checkcast 4, 3) := by decide +kernel
theorem dX1_fallAll_25 : decode cX1_fallAll 25 = .ok (.astore_n 3, 1) := by decide +kernel
theorem dX1_fallAll_26 : decode cX1_fallAll 26 = .ok (.aload_n 3, 1) := by decide +kernel
theorem dX1_fallAll_27 : decode cX1_fallAll 27 = .ok (.getfield 72, 3) := by decide +kernel
theorem dX1_fallAll_30 : decode cX1_fallAll 30 = .ok (.iconst 1, 1) := by decide +kernel
theorem dX1_fallAll_31 : decode cX1_fallAll 31 = .ok (.if_icmp .ne 8, 3) := by decide +kernel
theorem dX1_fallAll_34 : decode cX1_fallAll 34 = .ok (.aload_n 3, 1) := by decide +kernel
theorem dX1_fallAll_35 : decode cX1_fallAll 35 = .ok (.aload_n 1, 1) := by decide +kernel
theorem dX1_fallAll_36 : decode cX1_fallAll 36 = .ok (.invokevirtual 84, 3) := by decide +kernel
theorem dX1_fallAll_39 : decode cX1_fallAll 39 = .ok (.iinc 2 (-1), 3) := by decide +kernel
theorem dX1_fallAll_42 : decode cX1_fallAll 42 = .ok (.goto (-32), 3) := by decide +kernel
theorem dX1_fallAll_45 : decode cX1_fallAll 45 = .ok (.return_, 1) := by decide +kernel
theorem dX2_init_0 : decode cX2_init 0 = .ok (.aload_n 0, 1) := by decide +kernel
theorem dX2_init_1 : decode cX2_init 1 = .ok (.invokespecial 3, 3) := by decide +kernel
theorem dX2_init_4 : decode cX2_init 4 = .ok (.aload_n 0, 1) := by decide +kernel
theorem dX2_init_5 : decode cX2_init 5 = .ok (.iconst 0, 1) := by decide +kernel
theorem dX2_init_6 : decode cX2_init 6 = .ok (.putfield 9, 3) := by decide +kernel
theorem dX2_init_9 : decode cX2_init 9 = .ok (.aload_n 0, 1) := by decide +kernel
theorem dX2_init_10 : decode cX2_init 10 = .ok (.iload_n 1, 1) := by decide +kernel
theorem dX2_init_11 : decode cX2_init 11 = .ok (.putfield 15, 3) := by decide +kernel
theorem dX2_init_14 : decode cX2_init 14 = .ok (.aload_n 0, 1) := by decide +kernel
theorem dX2_init_15 : decode cX2_init 15 = .ok (.aload_n 2, 1) := by decide +kernel
theorem dX2_init_16 : decode cX2_init 16 = .ok (.putfield 18, 3) := by decide +kernel
theorem dX2_init_19 : decode cX2_init 19 = .ok (.aload_n 0, 1) := by decide +kernel
theorem dX2_init_20 : decode cX2_init 20 = .ok (.aload_n 2, 1) := by decide +kernel
theorem dX2_init_21 : decode cX2_init 21 = .ok (.ifnonnull 7, 3) := by decide +kernel
theorem dX2_init_24 : decode cX2_init 24 = .ok (.iconst 0, 1) := by decide +kernel
theorem dX2_init_25 : decode cX2_init 25 = .ok (.goto 9, 3) := by decide +kernel
theorem dX2_init_28 : decode cX2_init 28 = .ok (.aload_n 2, 1) := by decide +kernel
theorem dX2_init_29 : decode cX2_init 29 = .ok (.getfield 22, 3) := by decide +kernel
theorem dX2_init_32 : decode cX2_init 32 = .ok (.iconst 1, 1) := by decide +kernel
theorem dX2_init_33 : decode cX2_init 33 = .ok (.iadd, 1) := by decide +kernel
theorem dX2_init_34 : decode cX2_init 34 = .ok (.putfield 27, 3) := by decide +kernel
theorem dX2_init_37 : decode cX2_init 37 = .ok (.aload_n 0, 1) := by decide +kernel
theorem dX2_init_38 : decode cX2_init 38 = .ok (.iload_n 3, 1) := by decide +kernel
theorem dX2_init_39 : decode cX2_init 39 = .ok (.putfield 28, 3) := by decide +kernel
theorem dX2_init_42 : decode cX2_init 42 = .ok (.return_, 1) := by decide +kernel
theorem dX2_settle_0 : decode cX2_settle 0 = .ok (.aload_n 0, 1) := by decide +kernel
theorem dX2_settle_1 : decode cX2_settle 1 = .ok (.iload_n 1, 1) := by decide +kernel
theorem dX2_settle_2 : decode cX2_settle 2 = .ok (.ifCond .eq 7, 3) := by decide +kernel
theorem dX2_settle_5 : decode cX2_settle 5 = .ok (.iconst 0, 1) := by decide +kernel
theorem dX2_settle_6 : decode cX2_settle 6 = .ok (.goto 4, 3) := by decide +kernel
theorem dX2_settle_9 : decode cX2_settle 9 = .ok (.iconst 1, 1) := by decide +kernel
theorem dX2_settle_10 : decode cX2_settle 10 = .ok (.putfield 9, 3) := by decide +kernel
theorem dX2_settle_13 : decode cX2_settle 13 = .ok (.aload_n 2, 1) := by decide +kernel
theorem dX2_settle_14 : decode cX2_settle 14 = .ok (.iload_n 1, 1) := by decide +kernel
theorem dX2_settle_15 : decode cX2_settle 15 = .ok (.ifCond .eq 7, 3) := by decide +kernel
theorem dX2_settle_18 : decode cX2_settle 18 = .ok (.iconst 2, 1) := by decide +kernel
theorem dX2_settle_19 : decode cX2_settle 19 = .ok (.goto 4, 3) := by decide +kernel
theorem dX2_settle_22 : decode cX2_settle 22 = .ok (.iconst 1, 1) := by decide +kernel
theorem dX2_settle_23 : decode cX2_settle 23 = .ok (.aload_n 0, 1) := by decide +kernel
theorem dX2_settle_24 : decode cX2_settle 24 = .ok (.getfield 15, 3) := by decide +kernel
theorem dX2_settle_27 : decode cX2_settle 27 = .ok (.iconst 0, 1) := by decide +kernel
theorem dX2_settle_28 : decode cX2_settle 28 = .ok (.invokevirtual 31, 3) := by decide +kernel
theorem dX2_settle_31 : decode cX2_settle 31 = .ok (.iload_n 1, 1) := by decide +kernel
theorem dX2_settle_32 : decode cX2_settle 32 = .ok (.ifCond .ne 7, 3) := by decide +kernel
theorem dX2_settle_35 : decode cX2_settle 35 = .ok (.iconst 1, 1) := by decide +kernel
theorem dX2_settle_36 : decode cX2_settle 36 = .ok (.goto 4, 3) := by decide +kernel
theorem dX2_settle_39 : decode cX2_settle 39 = .ok (.iconst 0, 1) := by decide +kernel
theorem dX2_settle_40 : decode cX2_settle 40 = .ok (.ireturn, 1) := by decide +kernel
theorem dX3_init_0 : decode cX3_init 0 = .ok (.aload_n 0, 1) := by decide +kernel
theorem dX3_init_1 : decode cX3_init 1 = .ok (.invokespecial 3, 3) := by decide +kernel
theorem dX3_init_4 : decode cX3_init 4 = .ok (.aload_n 0, 1) := by decide +kernel
theorem dX3_init_5 : decode cX3_init 5 = .ok (.bipush 8, 2) := by decide +kernel
theorem dX3_init_7 : decode cX3_init 7 = .ok (.newarray .int, 2) := by decide +kernel
theorem dX3_init_9 : decode cX3_init 9 = .ok (.putfield 9, 3) := by decide +kernel
theorem dX3_init_12 : decode cX3_init 12 = .ok (.aload_n 0, 1) := by decide +kernel
theorem dX3_init_13 : decode cX3_init 13 = .ok (.iconst 0, 1) := by decide +kernel
theorem dX3_init_14 : decode cX3_init 14 = .ok (.putfield 15, 3) := by decide +kernel
theorem dX3_init_17 : decode cX3_init 17 = .ok (.return_, 1) := by decide +kernel
theorem dX3_add_0 : decode cX3_add 0 = .ok (.aload_n 0, 1) := by decide +kernel
theorem dX3_add_1 : decode cX3_add 1 = .ok (.getfield 15, 3) := by decide +kernel
theorem dX3_add_4 : decode cX3_add 4 = .ok (.aload_n 0, 1) := by decide +kernel
theorem dX3_add_5 : decode cX3_add 5 = .ok (.getfield 9, 3) := by decide +kernel
theorem dX3_add_8 : decode cX3_add 8 = .ok (.arraylength, 1) := by decide +kernel
theorem dX3_add_9 : decode cX3_add 9 = .ok (.if_icmp .lt 12, 3) := by decide +kernel
theorem dX3_add_12 : decode cX3_add 12 = .ok (.aload_n 0, 1) := by decide +kernel
theorem dX3_add_13 : decode cX3_add 13 = .ok (.iload_n 1, 1) := by decide +kernel
theorem dX3_add_14 : decode cX3_add 14 = .ok (.sipush 1000, 3) := by decide +kernel
theorem dX3_add_17 : decode cX3_add 17 = .ok (.isub, 1) := by decide +kernel
theorem dX3_add_18 : decode cX3_add 18 = .ok (.invokevirtual 19, 3) := by decide +kernel
theorem dX3_add_21 : decode cX3_add 21 = .ok (.aload_n 0, 1) := by decide +kernel
theorem dX3_add_22 : decode cX3_add 22 = .ok (.getfield 9, 3) := by decide +kernel
theorem dX3_add_25 : decode cX3_add 25 = .ok (.aload_n 0, 1) := by decide +kernel
theorem dX3_add_26 : decode cX3_add 26 = .ok (.getfield 15, 3) := by decide +kernel
theorem dX3_add_29 : decode cX3_add 29 = .ok (.iload_n 1, 1) := by decide +kernel
theorem dX3_add_30 : decode cX3_add 30 = .ok (.iastore, 1) := by decide +kernel
theorem dX3_add_31 : decode cX3_add 31 = .ok (.aload_n 0, 1) := by decide +kernel
theorem dX3_add_32 : decode cX3_add 32 = .ok (.dup, 1) := by decide +kernel
theorem dX3_add_33 : decode cX3_add 33 = .ok (.getfield 15, 3) := by decide +kernel
theorem dX3_add_36 : decode cX3_add 36 = .ok (.iconst 1, 1) := by decide +kernel
theorem dX3_add_37 : decode cX3_add 37 = .ok (.iadd, 1) := by decide +kernel
theorem dX3_add_38 : decode cX3_add 38 = .ok (.putfield 15, 3) := by decide +kernel
theorem dX3_add_41 : decode cX3_add 41 = .ok (.return_, 1) := by decide +kernel
theorem dX3_notBefore_0 : decode cX3_notBefore 0 = .ok (.iconst 0, 1) := by decide +kernel
theorem dX3_notBefore_1 : decode cX3_notBefore 1 = .ok (.istore_n 2, 1) := by decide +kernel
theorem dX3_notBefore_2 : decode cX3_notBefore 2 = .ok (.aload_n 0, 1) := by decide +kernel
theorem dX3_notBefore_3 : decode cX3_notBefore 3 = .ok (.getfield 15, 3) := by decide +kernel
theorem dX3_notBefore_6 : decode cX3_notBefore 6 = .ok (.iconst 1, 1) := by decide +kernel
theorem dX3_notBefore_7 : decode cX3_notBefore 7 = .ok (.isub, 1) := by decide +kernel
theorem dX3_notBefore_8 : decode cX3_notBefore 8 = .ok (.istore_n 3, 1) := by decide +kernel
theorem dX3_notBefore_9 : decode cX3_notBefore 9 = .ok (.iload_n 3, 1) := by decide +kernel
theorem dX3_notBefore_10 : decode cX3_notBefore 10 = .ok (.ifCond .lt 22, 3) := by decide +kernel
theorem dX3_notBefore_13 : decode cX3_notBefore 13 = .ok (.aload_n 0, 1) := by decide +kernel
theorem dX3_notBefore_14 : decode cX3_notBefore 14 = .ok (.getfield 9, 3) := by decide +kernel
theorem dX3_notBefore_17 : decode cX3_notBefore 17 = .ok (.iload_n 3, 1) := by decide +kernel
theorem dX3_notBefore_18 : decode cX3_notBefore 18 = .ok (.iaload, 1) := by decide +kernel
theorem dX3_notBefore_19 : decode cX3_notBefore 19 = .ok (.iload_n 1, 1) := by decide +kernel
theorem dX3_notBefore_20 : decode cX3_notBefore 20 = .ok (.if_icmp .lt 12, 3) := by decide +kernel
theorem dX3_notBefore_23 : decode cX3_notBefore 23 = .ok (.iinc 2 1, 3) := by decide +kernel
theorem dX3_notBefore_26 : decode cX3_notBefore 26 = .ok (.iinc 3 (-1), 3) := by decide +kernel
theorem dX3_notBefore_29 : decode cX3_notBefore 29 = .ok (.goto (-20), 3) := by decide +kernel
theorem dX3_notBefore_32 : decode cX3_notBefore 32 = .ok (.iload_n 2, 1) := by decide +kernel
theorem dX3_notBefore_33 : decode cX3_notBefore 33 = .ok (.ireturn, 1) := by decide +kernel
theorem dX3_clear_0 : decode cX3_clear 0 = .ok (.aload_n 0, 1) := by decide +kernel
theorem dX3_clear_1 : decode cX3_clear 1 = .ok (.iconst 0, 1) := by decide +kernel
theorem dX3_clear_2 : decode cX3_clear 2 = .ok (.putfield 15, 3) := by decide +kernel
theorem dX3_clear_5 : decode cX3_clear 5 = .ok (.return_, 1) := by decide +kernel
theorem dX3_makeRoom_0 : decode cX3_makeRoom 0 = .ok (.aload_n 0, 1) := by decide +kernel
theorem dX3_makeRoom_1 : decode cX3_makeRoom 1 = .ok (.iload_n 1, 1) := by decide +kernel
theorem dX3_makeRoom_2 : decode cX3_makeRoom 2 = .ok (.invokevirtual 23, 3) := by decide +kernel
theorem dX3_makeRoom_5 : decode cX3_makeRoom 5 = .ok (.istore_n 2, 1) := by decide +kernel
theorem dX3_makeRoom_6 : decode cX3_makeRoom 6 = .ok (.iload_n 2, 1) := by decide +kernel
theorem dX3_makeRoom_7 : decode cX3_makeRoom 7 = .ok (.aload_n 0, 1) := by decide +kernel
theorem dX3_makeRoom_8 : decode cX3_makeRoom 8 = .ok (.getfield 9, 3) := by decide +kernel
theorem dX3_makeRoom_11 : decode cX3_makeRoom 11 = .ok (.arraylength, 1) := by decide +kernel
theorem dX3_makeRoom_12 : decode cX3_makeRoom 12 = .ok (.iconst 2, 1) := by decide +kernel
theorem dX3_makeRoom_13 : decode cX3_makeRoom 13 = .ok (.idiv, 1) := by decide +kernel
theorem dX3_makeRoom_14 : decode cX3_makeRoom 14 = .ok (.if_icmp .le 15, 3) := by decide +kernel
theorem dX3_makeRoom_17 : decode cX3_makeRoom 17 = .ok (.aload_n 0, 1) := by decide +kernel
theorem dX3_makeRoom_18 : decode cX3_makeRoom 18 = .ok (.getfield 9, 3) := by decide +kernel
theorem dX3_makeRoom_21 : decode cX3_makeRoom 21 = .ok (.arraylength, 1) := by decide +kernel
theorem dX3_makeRoom_22 : decode cX3_makeRoom 22 = .ok (.iconst 2, 1) := by decide +kernel
theorem dX3_makeRoom_23 : decode cX3_makeRoom 23 = .ok (.imul, 1) := by decide +kernel
theorem dX3_makeRoom_24 : decode cX3_makeRoom 24 = .ok (.newarray .int, 2) := by decide +kernel
theorem dX3_makeRoom_26 : decode cX3_makeRoom 26 = .ok (.goto 7, 3) := by decide +kernel
theorem dX3_makeRoom_29 : decode cX3_makeRoom 29 = .ok (.aload_n 0, 1) := by decide +kernel
theorem dX3_makeRoom_30 : decode cX3_makeRoom 30 = .ok (.getfield 9, 3) := by decide +kernel
theorem dX3_makeRoom_33 : decode cX3_makeRoom 33 = .ok (.astore_n 3, 1) := by decide +kernel
theorem dX3_makeRoom_34 : decode cX3_makeRoom 34 = .ok (.aload_n 0, 1) := by decide +kernel
theorem dX3_makeRoom_35 : decode cX3_makeRoom 35 = .ok (.getfield 9, 3) := by decide +kernel
theorem dX3_makeRoom_38 : decode cX3_makeRoom 38 = .ok (.aload_n 0, 1) := by decide +kernel
theorem dX3_makeRoom_39 : decode cX3_makeRoom 39 = .ok (.getfield 15, 3) := by decide +kernel
theorem dX3_makeRoom_42 : decode cX3_makeRoom 42 = .ok (.iload_n 2, 1) := by decide +kernel
theorem dX3_makeRoom_43 : decode cX3_makeRoom 43 = .ok (.isub, 1) := by decide +kernel
theorem dX3_makeRoom_44 : decode cX3_makeRoom 44 = .ok (.aload_n 3, 1) := by decide +kernel
theorem dX3_makeRoom_45 : decode cX3_makeRoom 45 = .ok (.iconst 0, 1) := by decide +kernel
theorem dX3_makeRoom_46 : decode cX3_makeRoom 46 = .ok (.iload_n 2, 1) := by decide +kernel
theorem dX3_makeRoom_47 : decode cX3_makeRoom 47 = .ok (.invokestatic 27, 3) := by decide +kernel
theorem dX3_makeRoom_50 : decode cX3_makeRoom 50 = .ok (.aload_n 0, 1) := by decide +kernel
theorem dX3_makeRoom_51 : decode cX3_makeRoom 51 = .ok (.aload_n 3, 1) := by decide +kernel
theorem dX3_makeRoom_52 : decode cX3_makeRoom 52 = .ok (.putfield 9, 3) := by decide +kernel
theorem dX3_makeRoom_55 : decode cX3_makeRoom 55 = .ok (.aload_n 0, 1) := by decide +kernel
theorem dX3_makeRoom_56 : decode cX3_makeRoom 56 = .ok (.iload_n 2, 1) := by decide +kernel
theorem dX3_makeRoom_57 : decode cX3_makeRoom 57 = .ok (.putfield 15, 3) := by decide +kernel
theorem dX3_makeRoom_60 : decode cX3_makeRoom 60 = .ok (.return_, 1) := by decide +kernel
theorem dX4_init_0 : decode cX4_init 0 = .ok (.aload_n 0, 1) := by decide +kernel
theorem dX4_init_1 : decode cX4_init 1 = .ok (.iload_n 1, 1) := by decide +kernel
theorem dX4_init_2 : decode cX4_init 2 = .ok (.aload_n 2, 1) := by decide +kernel
theorem dX4_init_3 : decode cX4_init 3 = .ok (.iload_n 3, 1) := by decide +kernel
theorem dX4_init_4 : decode cX4_init 4 = .ok (.invokespecial 3, 3) := by decide +kernel
theorem dX4_init_7 : decode cX4_init 7 = .ok (.aload_n 0, 1) := by decide +kernel
theorem dX4_init_8 : decode cX4_init 8 = .ok (.iload 4, 2) := by decide +kernel
theorem dX4_init_10 : decode cX4_init 10 = .ok (.putfield 9, 3) := by decide +kernel
theorem dX4_init_13 : decode cX4_init 13 = .ok (.aload_n 0, 1) := by decide +kernel
theorem dX4_init_14 : decode cX4_init 14 = .ok (.iload 5, 2) := by decide +kernel
theorem dX4_init_16 : decode cX4_init 16 = .ok (.putfield 15, 3) := by decide +kernel
theorem dX4_init_19 : decode cX4_init 19 = .ok (.aload_n 0, 1) := by decide +kernel
theorem dX4_init_20 : decode cX4_init 20 = .ok (.iload 6, 2) := by decide +kernel
theorem dX4_init_22 : decode cX4_init 22 = .ok (.putfield 18, 3) := by decide +kernel
theorem dX4_init_25 : decode cX4_init 25 = .ok (.aload_n 0, 1) := by decide +kernel
theorem dX4_init_26 : decode cX4_init 26 = .ok (.iload 7, 2) := by decide +kernel
theorem dX4_init_28 : decode cX4_init 28 = .ok (.putfield 21, 3) := by decide +kernel
theorem dX4_init_31 : decode cX4_init 31 = .ok (.return_, 1) := by decide +kernel
theorem dX4_rise_0 : decode cX4_rise 0 = .ok (.aload_n 1, 1) := by decide +kernel
theorem dX4_rise_1 : decode cX4_rise 1 = .ok (.dup, 1) := by decide +kernel
theorem dX4_rise_2 : decode cX4_rise 2 = .ok (.getfield 24, 3) := by decide +kernel
theorem dX4_rise_5 : decode cX4_rise 5 = .ok (.aload_n 0, 1) := by decide +kernel
theorem dX4_rise_6 : decode cX4_rise 6 = .ok (.getfield 15, 3) := by decide +kernel
theorem dX4_rise_9 : decode cX4_rise 9 = .ok (.iadd, 1) := by decide +kernel
theorem dX4_rise_10 : decode cX4_rise 10 = .ok (.putfield 24, 3) := by decide +kernel
theorem dX4_rise_13 : decode cX4_rise 13 = .ok (.aload_n 0, 1) := by decide +kernel
theorem dX4_rise_14 : decode cX4_rise 14 = .ok (.getfield 21, 3) := by decide +kernel
theorem dX4_rise_17 : decode cX4_rise 17 = .ok (.ifCond .le 7, 3) := by decide +kernel
theorem dX4_rise_20 : decode cX4_rise 20 = .ok (.iconst 1, 1) := by decide +kernel
theorem dX4_rise_21 : decode cX4_rise 21 = .ok (.goto 4, 3) := by decide +kernel
theorem dX4_rise_24 : decode cX4_rise 24 = .ok (.iconst 0, 1) := by decide +kernel
theorem dX4_rise_25 : decode cX4_rise 25 = .ok (.istore_n 2, 1) := by decide +kernel
theorem dX4_rise_26 : decode cX4_rise 26 = .ok (.iload_n 2, 1) := by decide +kernel
theorem dX4_rise_27 : decode cX4_rise 27 = .ok (.ifCond .eq 13, 3) := by decide +kernel
theorem dX4_rise_30 : decode cX4_rise 30 = .ok (.aload_n 0, 1) := by decide +kernel
theorem dX4_rise_31 : decode cX4_rise 31 = .ok (.dup, 1) := by decide +kernel
theorem dX4_rise_32 : decode cX4_rise 32 = .ok (.getfield 21, 3) := by decide +kernel
theorem dX4_rise_35 : decode cX4_rise 35 = .ok (.iconst 1, 1) := by decide +kernel
theorem dX4_rise_36 : decode cX4_rise 36 = .ok (.isub, 1) := by decide +kernel
theorem dX4_rise_37 : decode cX4_rise 37 = .ok (.putfield 21, 3) := by decide +kernel
theorem dX4_rise_40 : decode cX4_rise 40 = .ok (.aload_n 0, 1) := by decide +kernel
theorem dX4_rise_41 : decode cX4_rise 41 = .ok (.iload_n 2, 1) := by decide +kernel
theorem dX4_rise_42 : decode cX4_rise 42 = .ok (.aload_n 1, 1) := by decide +kernel
theorem dX4_rise_43 : decode cX4_rise 43 = .ok (.invokevirtual 29, 3) := by decide +kernel
theorem dX4_rise_46 : decode cX4_rise 46 = .ok (.ireturn, 1) := by decide +kernel
theorem dX4_fall_0 : decode cX4_fall 0 = .ok (.aload_n 0, 1) := by decide +kernel
theorem dX4_fall_1 : decode cX4_fall 1 = .ok (.getfield 9, 3) := by decide +kernel
theorem dX4_fall_4 : decode cX4_fall 4 = .ok (.iconst (-1), 1) := by decide +kernel
theorem dX4_fall_5 : decode cX4_fall 5 = .ok (.if_icmp .eq 21, 3) := by decide +kernel
theorem dX4_fall_8 : decode cX4_fall 8 = .ok (.aload_n 0, 1) := by decide +kernel
theorem dX4_fall_9 : decode cX4_fall 9 = .ok (.getfield 9, 3) := by decide +kernel
theorem dX4_fall_12 : decode cX4_fall 12 = .ok (.ifCond .le 18, 3) := by decide +kernel
theorem dX4_fall_15 : decode cX4_fall 15 = .ok (.aload_n 0, 1) := by decide +kernel
theorem dX4_fall_16 : decode cX4_fall 16 = .ok (.getfield 18, 3) := by decide +kernel
theorem dX4_fall_19 : decode cX4_fall 19 = .ok (.aload_n 0, 1) := by decide +kernel
theorem dX4_fall_20 : decode cX4_fall 20 = .ok (.getfield 9, 3) := by decide +kernel
theorem dX4_fall_23 : decode cX4_fall 23 = .ok (.if_icmp .gt 7, 3) := by decide +kernel
theorem dX4_fall_26 : decode cX4_fall 26 = .ok (.iconst 1, 1) := by decide +kernel
theorem dX4_fall_27 : decode cX4_fall 27 = .ok (.goto 4, 3) := by decide +kernel
theorem dX4_fall_30 : decode cX4_fall 30 = .ok (.iconst 0, 1) := by decide +kernel
theorem dX4_fall_31 : decode cX4_fall 31 = .ok (.istore_n 2, 1) := by decide +kernel
theorem dX4_fall_32 : decode cX4_fall 32 = .ok (.aload_n 1, 1) := by decide +kernel
theorem dX4_fall_33 : decode cX4_fall 33 = .ok (.dup, 1) := by decide +kernel
theorem dX4_fall_34 : decode cX4_fall 34 = .ok (.getfield 24, 3) := by decide +kernel
theorem dX4_fall_37 : decode cX4_fall 37 = .ok (.iload_n 2, 1) := by decide +kernel
theorem dX4_fall_38 : decode cX4_fall 38 = .ok (.ifCond .eq 10, 3) := by decide +kernel
theorem dX4_fall_41 : decode cX4_fall 41 = .ok (.aload_n 0, 1) := by decide +kernel
theorem dX4_fall_42 : decode cX4_fall 42 = .ok (.getfield 18, 3) := by decide +kernel
theorem dX4_fall_45 : decode cX4_fall 45 = .ok (.goto 7, 3) := by decide +kernel
theorem dX4_fall_48 : decode cX4_fall 48 = .ok (.aload_n 0, 1) := by decide +kernel
theorem dX4_fall_49 : decode cX4_fall 49 = .ok (.getfield 9, 3) := by decide +kernel
theorem dX4_fall_52 : decode cX4_fall 52 = .ok (.iadd, 1) := by decide +kernel
theorem dX4_fall_53 : decode cX4_fall 53 = .ok (.putfield 24, 3) := by decide +kernel
theorem dX4_fall_56 : decode cX4_fall 56 = .ok (.aload_n 0, 1) := by decide +kernel
theorem dX4_fall_57 : decode cX4_fall 57 = .ok (.iconst 0, 1) := by decide +kernel
theorem dX4_fall_58 : decode cX4_fall 58 = .ok (.putfield 33, 3) := by decide +kernel
theorem dX4_fall_61 : decode cX4_fall 61 = .ok (.aload_n 1, 1) := by decide +kernel
theorem dX4_fall_62 : decode cX4_fall 62 = .ok (.iload_n 2, 1) := by decide +kernel
theorem dX4_fall_63 : decode cX4_fall 63 = .ok (.ifCond .eq 7, 3) := by decide +kernel
theorem dX4_fall_66 : decode cX4_fall 66 = .ok (.iconst 3, 1) := by decide +kernel
theorem dX4_fall_67 : decode cX4_fall 67 = .ok (.goto 4, 3) := by decide +kernel
theorem dX4_fall_70 : decode cX4_fall 70 = .ok (.iconst 4, 1) := by decide +kernel
theorem dX4_fall_71 : decode cX4_fall 71 = .ok (.aload_n 0, 1) := by decide +kernel
theorem dX4_fall_72 : decode cX4_fall 72 = .ok (.getfield 36, 3) := by decide +kernel
theorem dX4_fall_75 : decode cX4_fall 75 = .ok (.iconst 0, 1) := by decide +kernel
theorem dX4_fall_76 : decode cX4_fall 76 = .ok (.invokevirtual 39, 3) := by decide +kernel
theorem dX4_fall_79 : decode cX4_fall 79 = .ok (.return_, 1) := by decide +kernel
theorem dX4_perish_0 : decode cX4_perish 0 = .ok (.aload_n 0, 1) := by decide +kernel
theorem dX4_perish_1 : decode cX4_perish 1 = .ok (.iconst 0, 1) := by decide +kernel
theorem dX4_perish_2 : decode cX4_perish 2 = .ok (.putfield 33, 3) := by decide +kernel
theorem dX4_perish_5 : decode cX4_perish 5 = .ok (.aload_n 1, 1) := by decide +kernel
theorem dX4_perish_6 : decode cX4_perish 6 = .ok (.iconst 4, 1) := by decide +kernel
theorem dX4_perish_7 : decode cX4_perish 7 = .ok (.aload_n 0, 1) := by decide +kernel
theorem dX4_perish_8 : decode cX4_perish 8 = .ok (.getfield 36, 3) := by decide +kernel
theorem dX4_perish_11 : decode cX4_perish 11 = .ok (.iconst 0, 1) := by decide +kernel
theorem dX4_perish_12 : decode cX4_perish 12 = .ok (.invokevirtual 39, 3) := by decide +kernel
theorem dX4_perish_15 : decode cX4_perish 15 = .ok (.iconst 1, 1) := by decide +kernel
theorem dX4_perish_16 : decode cX4_perish 16 = .ok (.ireturn, 1) := by decide +kernel
theorem dX4_vanish_0 : decode cX4_vanish 0 = .ok (.aload_n 0, 1) := by decide +kernel
theorem dX4_vanish_1 : decode cX4_vanish 1 = .ok (.iconst 2, 1) := by decide +kernel
theorem dX4_vanish_2 : decode cX4_vanish 2 = .ok (.putfield 33, 3) := by decide +kernel
theorem dX4_vanish_5 : decode cX4_vanish 5 = .ok (.iconst 1, 1) := by decide +kernel
theorem dX4_vanish_6 : decode cX4_vanish 6 = .ok (.ireturn, 1) := by decide +kernel
theorem dX5_init_0 : decode cX5_init 0 = .ok (.aload_n 0, 1) := by decide +kernel
theorem dX5_init_1 : decode cX5_init 1 = .ok (.invokespecial 1, 3) := by decide +kernel
theorem dX5_init_4 : decode cX5_init 4 = .ok (.aload_n 0, 1) := by decide +kernel
theorem dX5_init_5 : decode cX5_init 5 = .ok (.new 7, 3) := by decide +kernel
theorem dX5_init_8 : decode cX5_init 8 = .ok (.dup, 1) := by decide +kernel
theorem dX5_init_9 : decode cX5_init 9 = .ok (.invokespecial 9, 3) := by decide +kernel
theorem dX5_init_12 : decode cX5_init 12 = .ok (.putfield 10, 3) := by decide +kernel
theorem dX5_init_15 : decode cX5_init 15 = .ok (.aload_n 0, 1) := by decide +kernel
theorem dX5_init_16 : decode cX5_init 16 = .ok (.bipush 80, 2) := by decide +kernel
theorem dX5_init_18 : decode cX5_init 18 = .ok (.anewarray 16, 3) := by decide +kernel
theorem dX5_init_21 : decode cX5_init 21 = .ok (.putfield 18, 3) := by decide +kernel
theorem dX5_init_24 : decode cX5_init 24 = .ok (.aload_n 0, 1) := by decide +kernel
theorem dX5_init_25 : decode cX5_init 25 = .ok (.new 22, 3) := by decide +kernel
theorem dX5_init_28 : decode cX5_init 28 = .ok (.dup, 1) := by decide +kernel
theorem dX5_init_29 : decode cX5_init 29 = .ok (.iconst 0, 1) := by decide +kernel
theorem dX5_init_30 : decode cX5_init 30 = .ok (.aconst_null, 1) := by decide +kernel
theorem dX5_init_31 : decode cX5_init 31 = .ok (.iconst 0, 1) := by decide +kernel
theorem dX5_init_32 : decode cX5_init 32 = .ok (.iconst 0, 1) := by decide +kernel
theorem dX5_init_33 : decode cX5_init 33 = .ok (.iconst 1, 1) := by decide +kernel
theorem dX5_init_34 : decode cX5_init 34 = .ok (.iconst 5, 1) := by decide +kernel
theorem dX5_init_35 : decode cX5_init 35 = .ok (.invokespecial 24, 3) := by decide +kernel
theorem dX5_init_38 : decode cX5_init 38 = .ok (.putfield 27, 3) := by decide +kernel
theorem dX5_init_41 : decode cX5_init 41 = .ok (.aload_n 0, 1) := by decide +kernel
theorem dX5_init_42 : decode cX5_init 42 = .ok (.iconst 1, 1) := by decide +kernel
theorem dX5_init_43 : decode cX5_init 43 = .ok (.putfield 31, 3) := by decide +kernel
theorem dX5_init_46 : decode cX5_init 46 = .ok (.aload_n 0, 1) := by decide +kernel
theorem dX5_init_47 : decode cX5_init 47 = .ok (.iconst 0, 1) := by decide +kernel
theorem dX5_init_48 : decode cX5_init 48 = .ok (.putfield 35, 3) := by decide +kernel
theorem dX5_init_51 : decode cX5_init 51 = .ok (.aload_n 0, 1) := by decide +kernel
theorem dX5_init_52 : decode cX5_init 52 = .ok (.iconst 0, 1) := by decide +kernel
theorem dX5_init_53 : decode cX5_init 53 = .ok (.putfield 38, 3) := by decide +kernel
theorem dX5_init_56 : decode cX5_init 56 = .ok (.aload_n 0, 1) := by decide +kernel
theorem dX5_init_57 : decode cX5_init 57 = .ok (.getfield 18, 3) := by decide +kernel
theorem dX5_init_60 : decode cX5_init 60 = .ok (.iconst 0, 1) := by decide +kernel
theorem dX5_init_61 : decode cX5_init 61 = .ok (.aload_n 0, 1) := by decide +kernel
theorem dX5_init_62 : decode cX5_init 62 = .ok (.getfield 27, 3) := by decide +kernel
theorem dX5_init_65 : decode cX5_init 65 = .ok (.aastore, 1) := by decide +kernel
theorem dX5_init_66 : decode cX5_init 66 = .ok (.return_, 1) := by decide +kernel
theorem dX5_first_0 : decode cX5_first 0 = .ok (.iload_n 1, 1) := by decide +kernel
theorem dX5_first_1 : decode cX5_first 1 = .ok (.iload_n 2, 1) := by decide +kernel
theorem dX5_first_2 : decode cX5_first 2 = .ok (.iload_n 3, 1) := by decide +kernel
theorem dX5_first_3 : decode cX5_first 3 = .ok (.invokestatic 41, 3) := by decide +kernel
theorem dX5_first_6 : decode cX5_first 6 = .ok (.aload_n 0, 1) := by decide +kernel
theorem dX5_first_7 : decode cX5_first 7 = .ok (.getfield 27, 3) := by decide +kernel
theorem dX5_first_10 : decode cX5_first 10 = .ok (.getfield 45, 3) := by decide +kernel
theorem dX5_first_13 : decode cX5_first 13 = .ok (.iconst 1, 1) := by decide +kernel
theorem dX5_first_14 : decode cX5_first 14 = .ok (.if_icmp .eq 7, 3) := by decide +kernel
theorem dX5_first_17 : decode cX5_first 17 = .ok (.iconst 1, 1) := by decide +kernel
theorem dX5_first_18 : decode cX5_first 18 = .ok (.goto 4, 3) := by decide +kernel
theorem dX5_first_21 : decode cX5_first 21 = .ok (.iconst 0, 1) := by decide +kernel
theorem dX5_first_22 : decode cX5_first 22 = .ok (.invokestatic 48, 3) := by decide +kernel
theorem dX5_first_25 : decode cX5_first 25 = .ok (.aload_n 0, 1) := by decide +kernel
theorem dX5_first_26 : decode cX5_first 26 = .ok (.getfield 27, 3) := by decide +kernel
theorem dX5_first_29 : decode cX5_first 29 = .ok (.iload_n 1, 1) := by decide +kernel
theorem dX5_first_30 : decode cX5_first 30 = .ok (.putfield 52, 3) := by decide +kernel
theorem dX5_first_33 : decode cX5_first 33 = .ok (.aload_n 0, 1) := by decide +kernel
theorem dX5_first_34 : decode cX5_first 34 = .ok (.getfield 27, 3) := by decide +kernel
theorem dX5_first_37 : decode cX5_first 37 = .ok (.iload_n 2, 1) := by decide +kernel
theorem dX5_first_38 : decode cX5_first 38 = .ok (.putfield 55, 3) := by decide +kernel
theorem dX5_first_41 : decode cX5_first 41 = .ok (.aload_n 0, 1) := by decide +kernel
theorem dX5_first_42 : decode cX5_first 42 = .ok (.getfield 27, 3) := by decide +kernel
theorem dX5_first_45 : decode cX5_first 45 = .ok (.iload_n 3, 1) := by decide +kernel
theorem dX5_first_46 : decode cX5_first 46 = .ok (.putfield 58, 3) := by decide +kernel
theorem dX5_first_49 : decode cX5_first 49 = .ok (.return_, 1) := by decide +kernel
theorem dX5_keeper_0 : decode cX5_keeper 0 = .ok (.aload_n 0, 1) := by decide +kernel
theorem dX5_keeper_1 : decode cX5_keeper 1 = .ok (.iload_n 1, 1) := by decide +kernel
theorem dX5_keeper_2 : decode cX5_keeper 2 = .ok (.invokevirtual 61, 3) := by decide +kernel
theorem dX5_keeper_5 : decode cX5_keeper 5 = .ok (.astore 6, 2) := by decide +kernel
theorem dX5_keeper_7 : decode cX5_keeper 7 = .ok (.iload_n 2, 1) := by decide +kernel
theorem dX5_keeper_8 : decode cX5_keeper 8 = .ok (.iconst 0, 1) := by decide +kernel
theorem dX5_keeper_9 : decode cX5_keeper 9 = .ok (.iconst 2, 1) := by decide +kernel
theorem dX5_keeper_10 : decode cX5_keeper 10 = .ok (.invokestatic 65, 3) := by decide +kernel
theorem dX5_keeper_13 : decode cX5_keeper 13 = .ok (.iload_n 3, 1) := by decide +kernel
theorem dX5_keeper_14 : decode cX5_keeper 14 = .ok (.iload 4, 2) := by decide +kernel
theorem dX5_keeper_16 : decode cX5_keeper 16 = .ok (.iload 5, 2) := by decide +kernel
theorem dX5_keeper_18 : decode cX5_keeper 18 = .ok (.invokestatic 41, 3) := by decide +kernel
theorem dX5_keeper_21 : decode cX5_keeper 21 = .ok (.aload_n 0, 1) := by decide +kernel
theorem dX5_keeper_22 : decode cX5_keeper 22 = .ok (.aload 6, 2) := by decide +kernel
theorem dX5_keeper_24 : decode cX5_keeper 24 = .ok (.invokevirtual 68, 3) := by decide +kernel
theorem dX5_keeper_27 : decode cX5_keeper 27 = .ok (.invokestatic 48, 3) := by decide +kernel
theorem dX5_keeper_30 : decode cX5_keeper 30 = .ok (.new 22, 3) := by decide +kernel
theorem dX5_keeper_33 : decode cX5_keeper 33 = .ok (.dup, 1) := by decide +kernel
theorem dX5_keeper_34 : decode cX5_keeper 34 = .ok (.aload_n 0, 1) := by decide +kernel
theorem dX5_keeper_35 : decode cX5_keeper 35 = .ok (.getfield 31, 3) := by decide +kernel
theorem dX5_keeper_38 : decode cX5_keeper 38 = .ok (.aload 6, 2) := by decide +kernel
theorem dX5_keeper_40 : decode cX5_keeper 40 = .ok (.iload_n 2, 1) := by decide +kernel
theorem dX5_keeper_41 : decode cX5_keeper 41 = .ok (.iload_n 3, 1) := by decide +kernel
theorem dX5_keeper_42 : decode cX5_keeper 42 = .ok (.iload 4, 2) := by decide +kernel
theorem dX5_keeper_44 : decode cX5_keeper 44 = .ok (.iload 5, 2) := by decide +kernel
theorem dX5_keeper_46 : decode cX5_keeper 46 = .ok (.invokespecial 24, 3) := by decide +kernel
theorem dX5_keeper_49 : decode cX5_keeper 49 = .ok (.astore 7, 2) := by decide +kernel
theorem dX5_keeper_51 : decode cX5_keeper 51 = .ok (.aload_n 0, 1) := by decide +kernel
theorem dX5_keeper_52 : decode cX5_keeper 52 = .ok (.aload 7, 2) := by decide +kernel
theorem dX5_keeper_54 : decode cX5_keeper 54 = .ok (.aload 6, 2) := by decide +kernel
theorem dX5_keeper_56 : decode cX5_keeper 56 = .ok (.invokevirtual 72, 3) := by decide +kernel
theorem dX5_keeper_59 : decode cX5_keeper 59 = .ok (.aload 6, 2) := by decide +kernel
theorem dX5_keeper_61 : decode cX5_keeper 61 = .ok (.getfield 45, 3) := by decide +kernel
theorem dX5_keeper_64 : decode cX5_keeper 64 = .ok (.iconst 1, 1) := by decide +kernel
theorem dX5_keeper_65 : decode cX5_keeper 65 = .ok (.if_icmp .ne 13, 3) := by decide +kernel
theorem dX5_keeper_68 : decode cX5_keeper 68 = .ok (.aload 7, 2) := by decide +kernel
theorem dX5_keeper_70 : decode cX5_keeper 70 = .ok (.aload_n 0, 1) := by decide +kernel
theorem dX5_keeper_71 : decode cX5_keeper 71 = .ok (.getfield 10, 3) := by decide +kernel
theorem dX5_keeper_74 : decode cX5_keeper 74 = .ok (.invokevirtual 76, 3) := by decide +kernel
theorem dX5_keeper_77 : decode cX5_keeper 77 = .ok (.pop, 1) := by decide +kernel
theorem dX5_keeper_78 : decode cX5_keeper 78 = .ok (.aload 7, 2) := by decide +kernel
theorem dX5_keeper_80 : decode cX5_keeper 80 = .ok (.getfield 80, 3) := by decide +kernel
theorem dX5_keeper_83 : decode cX5_keeper 83 = .ok (.ireturn, 1) := by decide +kernel
theorem dX5_worker_0 : decode cX5_worker 0 = .ok (.aload_n 0, 1) := by decide +kernel
theorem dX5_worker_1 : decode cX5_worker 1 = .ok (.iload_n 1, 1) := by decide +kernel
theorem dX5_worker_2 : decode cX5_worker 2 = .ok (.invokevirtual 61, 3) := by decide +kernel
theorem dX5_worker_5 : decode cX5_worker 5 = .ok (.astore 7, 2) := by decide +kernel
theorem dX5_worker_7 : decode cX5_worker 7 = .ok (.iload_n 2, 1) := by decide +kernel
theorem dX5_worker_8 : decode cX5_worker 8 = .ok (.iconst 0, 1) := by decide +kernel
theorem dX5_worker_9 : decode cX5_worker 9 = .ok (.iconst 2, 1) := by decide +kernel
theorem dX5_worker_10 : decode cX5_worker 10 = .ok (.invokestatic 65, 3) := by decide +kernel
theorem dX5_worker_13 : decode cX5_worker 13 = .ok (.iload_n 3, 1) := by decide +kernel
theorem dX5_worker_14 : decode cX5_worker 14 = .ok (.iconst (-1), 1) := by decide +kernel
theorem dX5_worker_15 : decode cX5_worker 15 = .ok (.sipush 1000, 3) := by decide +kernel
theorem dX5_worker_18 : decode cX5_worker 18 = .ok (.invokestatic 65, 3) := by decide +kernel
theorem dX5_worker_21 : decode cX5_worker 21 = .ok (.iload 4, 2) := by decide +kernel
theorem dX5_worker_23 : decode cX5_worker 23 = .ok (.iconst 0, 1) := by decide +kernel
theorem dX5_worker_24 : decode cX5_worker 24 = .ok (.bipush 100, 2) := by decide +kernel
theorem dX5_worker_26 : decode cX5_worker 26 = .ok (.invokestatic 65, 3) := by decide +kernel
theorem dX5_worker_29 : decode cX5_worker 29 = .ok (.iload 5, 2) := by decide +kernel
theorem dX5_worker_31 : decode cX5_worker 31 = .ok (.iconst 0, 1) := by decide +kernel
theorem dX5_worker_32 : decode cX5_worker 32 = .ok (.bipush 100, 2) := by decide +kernel
theorem dX5_worker_34 : decode cX5_worker 34 = .ok (.invokestatic 65, 3) := by decide +kernel
theorem dX5_worker_37 : decode cX5_worker 37 = .ok (.iload 6, 2) := by decide +kernel
theorem dX5_worker_39 : decode cX5_worker 39 = .ok (.iconst 0, 1) := by decide +kernel
theorem dX5_worker_40 : decode cX5_worker 40 = .ok (.bipush 50, 2) := by decide +kernel
theorem dX5_worker_42 : decode cX5_worker 42 = .ok (.invokestatic 65, 3) := by decide +kernel
theorem dX5_worker_45 : decode cX5_worker 45 = .ok (.aload_n 0, 1) := by decide +kernel
theorem dX5_worker_46 : decode cX5_worker 46 = .ok (.aload 7, 2) := by decide +kernel
theorem dX5_worker_48 : decode cX5_worker 48 = .ok (.invokevirtual 68, 3) := by decide +kernel
theorem dX5_worker_51 : decode cX5_worker 51 = .ok (.invokestatic 48, 3) := by decide +kernel
theorem dX5_worker_54 : decode cX5_worker 54 = .ok (.new 83, 3) := by decide +kernel
theorem dX5_worker_57 : decode cX5_worker 57 = .ok (.dup, 1) := by decide +kernel
theorem dX5_worker_58 : decode cX5_worker 58 = .ok (.aload_n 0, 1) := by decide +kernel
theorem dX5_worker_59 : decode cX5_worker 59 = .ok (.getfield 31, 3) := by decide +kernel
theorem dX5_worker_62 : decode cX5_worker 62 = .ok (.aload 7, 2) := by decide +kernel
theorem dX5_worker_64 : decode cX5_worker 64 = .ok (.iload_n 2, 1) := by decide +kernel
theorem dX5_worker_65 : decode cX5_worker 65 = .ok (.iload_n 3, 1) := by decide +kernel
theorem dX5_worker_66 : decode cX5_worker 66 = .ok (.iload 4, 2) := by decide +kernel
theorem dX5_worker_68 : decode cX5_worker 68 = .ok (.iload 5, 2) := by decide +kernel
theorem dX5_worker_70 : decode cX5_worker 70 = .ok (.iload 6, 2) := by decide +kernel
theorem dX5_worker_72 : decode cX5_worker 72 = .ok (.invokespecial 85, 3) := by decide +kernel
theorem dX5_worker_75 : decode cX5_worker 75 = .ok (.astore 8, 2) := by decide +kernel
theorem dX5_worker_77 : decode cX5_worker 77 = .ok (.aload_n 0, 1) := by decide +kernel
theorem dX5_worker_78 : decode cX5_worker 78 = .ok (.aload 8, 2) := by decide +kernel
theorem dX5_worker_80 : decode cX5_worker 80 = .ok (.aload 7, 2) := by decide +kernel
theorem dX5_worker_82 : decode cX5_worker 82 = .ok (.invokevirtual 72, 3) := by decide +kernel
theorem dX5_worker_85 : decode cX5_worker 85 = .ok (.aload 7, 2) := by decide +kernel
theorem dX5_worker_87 : decode cX5_worker 87 = .ok (.getfield 45, 3) := by decide +kernel
theorem dX5_worker_90 : decode cX5_worker 90 = .ok (.iconst 1, 1) := by decide +kernel
theorem dX5_worker_91 : decode cX5_worker 91 = .ok (.if_icmp .ne 29, 3) := by decide +kernel
theorem dX5_worker_94 : decode cX5_worker 94 = .ok (.aload 8, 2) := by decide +kernel
theorem dX5_worker_96 : decode cX5_worker 96 = .ok (.aload_n 0, 1) := by decide +kernel
theorem dX5_worker_97 : decode cX5_worker 97 = .ok (.getfield 10, 3) := by decide +kernel
theorem dX5_worker_100 : decode cX5_worker 100 = .ok (.invokevirtual 88, 3) := by decide +kernel
theorem dX5_worker_103 : decode cX5_worker 103 = .ok (.ifCond .ne 17, 3) := by decide +kernel
theorem dX5_worker_106 : decode cX5_worker 106 = .ok (.aload 7, 2) := by decide +kernel
theorem dX5_worker_108 : decode cX5_worker 108 = .ok (.aload 8, 2) := by decide +kernel
theorem dX5_worker_110 : decode cX5_worker 110 = .ok (.aload_n 0, 1) := by decide +kernel
theorem dX5_worker_111 : decode cX5_worker 111 = .ok (.getfield 10, 3) := by decide +kernel
theorem dX5_worker_114 : decode cX5_worker 114 = .ok (.invokevirtual 89, 3) := by decide +kernel
theorem dX5_worker_117 : decode cX5_worker 117 = .ok (.pop, 1) := by decide +kernel
theorem dX5_worker_118 : decode cX5_worker 118 = .ok (.iconst (-1), 1) := by decide +kernel
theorem dX5_worker_119 : decode cX5_worker 119 = .ok (.ireturn, 1) := by decide +kernel
theorem dX5_worker_120 : decode cX5_worker 120 = .ok (.aload 8, 2) := by decide +kernel
theorem dX5_worker_122 : decode cX5_worker 122 = .ok (.getfield 93, 3) := by decide +kernel
theorem dX5_worker_125 : decode cX5_worker 125 = .ok (.ireturn, 1) := by decide +kernel
theorem dX5_failing_0 : decode cX5_failing 0 = .ok (.aload_n 0, 1) := by decide +kernel
theorem dX5_failing_1 : decode cX5_failing 1 = .ok (.iload_n 1, 1) := by decide +kernel
theorem dX5_failing_2 : decode cX5_failing 2 = .ok (.invokevirtual 94, 3) := by decide +kernel
theorem dX5_failing_5 : decode cX5_failing 5 = .ok (.astore_n 3, 1) := by decide +kernel
theorem dX5_failing_6 : decode cX5_failing 6 = .ok (.iload_n 2, 1) := by decide +kernel
theorem dX5_failing_7 : decode cX5_failing 7 = .ok (.iconst 0, 1) := by decide +kernel
theorem dX5_failing_8 : decode cX5_failing 8 = .ok (.bipush 50, 2) := by decide +kernel
theorem dX5_failing_10 : decode cX5_failing 10 = .ok (.invokestatic 65, 3) := by decide +kernel
theorem dX5_failing_13 : decode cX5_failing 13 = .ok (.aload_n 3, 1) := by decide +kernel
theorem dX5_failing_14 : decode cX5_failing 14 = .ok (.getfield 98, 3) := by decide +kernel
theorem dX5_failing_17 : decode cX5_failing 17 = .ok (.istore 4, 2) := by decide +kernel
theorem dX5_failing_19 : decode cX5_failing 19 = .ok (.aload_n 3, 1) := by decide +kernel
theorem dX5_failing_20 : decode cX5_failing 20 = .ok (.iload_n 2, 1) := by decide +kernel
theorem dX5_failing_21 : decode cX5_failing 21 = .ok (.putfield 98, 3) := by decide +kernel
theorem dX5_failing_24 : decode cX5_failing 24 = .ok (.iload 4, 2) := by decide +kernel
theorem dX5_failing_26 : decode cX5_failing 26 = .ok (.ireturn, 1) := by decide +kernel
theorem dX5_begin_0 : decode cX5_begin 0 = .ok (.aload_n 0, 1) := by decide +kernel
theorem dX5_begin_1 : decode cX5_begin 1 = .ok (.getfield 27, 3) := by decide +kernel
theorem dX5_begin_4 : decode cX5_begin 4 = .ok (.getfield 45, 3) := by decide +kernel
theorem dX5_begin_7 : decode cX5_begin 7 = .ok (.iconst 1, 1) := by decide +kernel
theorem dX5_begin_8 : decode cX5_begin 8 = .ok (.if_icmp .eq 7, 3) := by decide +kernel
theorem dX5_begin_11 : decode cX5_begin 11 = .ok (.iconst 1, 1) := by decide +kernel
theorem dX5_begin_12 : decode cX5_begin 12 = .ok (.goto 4, 3) := by decide +kernel
theorem dX5_begin_15 : decode cX5_begin 15 = .ok (.iconst 0, 1) := by decide +kernel
theorem dX5_begin_16 : decode cX5_begin 16 = .ok (.invokestatic 48, 3) := by decide +kernel
theorem dX5_begin_19 : decode cX5_begin 19 = .ok (.aload_n 0, 1) := by decide +kernel
theorem dX5_begin_20 : decode cX5_begin 20 = .ok (.getfield 27, 3) := by decide +kernel
theorem dX5_begin_23 : decode cX5_begin 23 = .ok (.aload_n 0, 1) := by decide +kernel
theorem dX5_begin_24 : decode cX5_begin 24 = .ok (.getfield 10, 3) := by decide +kernel
theorem dX5_begin_27 : decode cX5_begin 27 = .ok (.invokevirtual 76, 3) := by decide +kernel
theorem dX5_begin_30 : decode cX5_begin 30 = .ok (.ireturn, 1) := by decide +kernel
theorem dX5_ends_0 : decode cX5_ends 0 = .ok (.aload_n 0, 1) := by decide +kernel
theorem dX5_ends_1 : decode cX5_ends 1 = .ok (.iload_n 1, 1) := by decide +kernel
theorem dX5_ends_2 : decode cX5_ends 2 = .ok (.invokevirtual 94, 3) := by decide +kernel
theorem dX5_ends_5 : decode cX5_ends 5 = .ok (.astore_n 3, 1) := by decide +kernel
theorem dX5_ends_6 : decode cX5_ends 6 = .ok (.iload_n 2, 1) := by decide +kernel
theorem dX5_ends_7 : decode cX5_ends 7 = .ok (.iconst 0, 1) := by decide +kernel
theorem dX5_ends_8 : decode cX5_ends 8 = .ok (.bipush 9, 2) := by decide +kernel
theorem dX5_ends_10 : decode cX5_ends 10 = .ok (.invokestatic 65, 3) := by decide +kernel
theorem dX5_ends_13 : decode cX5_ends 13 = .ok (.aload_n 3, 1) := by decide +kernel
theorem dX5_ends_14 : decode cX5_ends 14 = .ok (.getfield 101, 3) := by decide +kernel
theorem dX5_ends_17 : decode cX5_ends 17 = .ok (.iconst 1, 1) := by decide +kernel
theorem dX5_ends_18 : decode cX5_ends 18 = .ok (.if_icmp .ne 7, 3) := by decide +kernel
theorem dX5_ends_21 : decode cX5_ends 21 = .ok (.iconst 1, 1) := by decide +kernel
theorem dX5_ends_22 : decode cX5_ends 22 = .ok (.goto 4, 3) := by decide +kernel
theorem dX5_ends_25 : decode cX5_ends 25 = .ok (.iconst 0, 1) := by decide +kernel
theorem dX5_ends_26 : decode cX5_ends 26 = .ok (.invokestatic 48, 3) := by decide +kernel
theorem dX5_ends_29 : decode cX5_ends 29 = .ok (.aload_n 3, 1) := by decide +kernel
theorem dX5_ends_30 : decode cX5_ends 30 = .ok (.iconst 0, 1) := by decide +kernel
theorem dX5_ends_31 : decode cX5_ends 31 = .ok (.putfield 101, 3) := by decide +kernel
theorem dX5_ends_34 : decode cX5_ends 34 = .ok (.aload_n 0, 1) := by decide +kernel
theorem dX5_ends_35 : decode cX5_ends 35 = .ok (.getfield 10, 3) := by decide +kernel
theorem dX5_ends_38 : decode cX5_ends 38 = .ok (.iconst 5, 1) := by decide +kernel
theorem dX5_ends_39 : decode cX5_ends 39 = .ok (.aload_n 3, 1) := by decide +kernel
theorem dX5_ends_40 : decode cX5_ends 40 = .ok (.getfield 93, 3) := by decide +kernel
theorem dX5_ends_43 : decode cX5_ends 43 = .ok (.iload_n 2, 1) := by decide +kernel
theorem dX5_ends_44 : decode cX5_ends 44 = .ok (.invokevirtual 102, 3) := by decide +kernel
theorem dX5_ends_47 : decode cX5_ends 47 = .ok (.aload_n 0, 1) := by decide +kernel
theorem dX5_ends_48 : decode cX5_ends 48 = .ok (.aload_n 3, 1) := by decide +kernel
theorem dX5_ends_49 : decode cX5_ends 49 = .ok (.iload_n 2, 1) := by decide +kernel
theorem dX5_ends_50 : decode cX5_ends 50 = .ok (.invokevirtual 105, 3) := by decide +kernel
theorem dX5_ends_53 : decode cX5_ends 53 = .ok (.return_, 1) := by decide +kernel
theorem dX5_kill_0 : decode cX5_kill 0 = .ok (.aload_n 0, 1) := by decide +kernel
theorem dX5_kill_1 : decode cX5_kill 1 = .ok (.iload_n 1, 1) := by decide +kernel
theorem dX5_kill_2 : decode cX5_kill 2 = .ok (.invokevirtual 109, 3) := by decide +kernel
theorem dX5_kill_5 : decode cX5_kill 5 = .ok (.astore_n 2, 1) := by decide +kernel
theorem dX5_kill_6 : decode cX5_kill 6 = .ok (.aload_n 2, 1) := by decide +kernel
theorem dX5_kill_7 : decode cX5_kill 7 = .ok (.getfield 113, 3) := by decide +kernel
theorem dX5_kill_10 : decode cX5_kill 10 = .ok (.iconst 1, 1) := by decide +kernel
theorem dX5_kill_11 : decode cX5_kill 11 = .ok (.if_icmp .ne 7, 3) := by decide +kernel
theorem dX5_kill_14 : decode cX5_kill 14 = .ok (.iconst 1, 1) := by decide +kernel
theorem dX5_kill_15 : decode cX5_kill 15 = .ok (.goto 4, 3) := by decide +kernel
theorem dX5_kill_18 : decode cX5_kill 18 = .ok (.iconst 0, 1) := by decide +kernel
theorem dX5_kill_19 : decode cX5_kill 19 = .ok (.invokestatic 48, 3) := by decide +kernel
theorem dX5_kill_22 : decode cX5_kill 22 = .ok (.aload_n 2, 1) := by decide +kernel
theorem dX5_kill_23 : decode cX5_kill 23 = .ok (.aload_n 0, 1) := by decide +kernel
theorem dX5_kill_24 : decode cX5_kill 24 = .ok (.getfield 10, 3) := by decide +kernel
theorem dX5_kill_27 : decode cX5_kill 27 = .ok (.invokevirtual 114, 3) := by decide +kernel
theorem dX5_kill_30 : decode cX5_kill 30 = .ok (.istore_n 3, 1) := by decide +kernel
theorem dX5_kill_31 : decode cX5_kill 31 = .ok (.aload_n 0, 1) := by decide +kernel
theorem dX5_kill_32 : decode cX5_kill 32 = .ok (.aload_n 2, 1) := by decide +kernel
theorem dX5_kill_33 : decode cX5_kill 33 = .ok (.bipush 9, 2) := by decide +kernel
theorem dX5_kill_35 : decode cX5_kill 35 = .ok (.invokevirtual 105, 3) := by decide +kernel
theorem dX5_kill_38 : decode cX5_kill 38 = .ok (.iload_n 3, 1) := by decide +kernel
theorem dX5_kill_39 : decode cX5_kill 39 = .ok (.ireturn, 1) := by decide +kernel
theorem dX5_stop_0 : decode cX5_stop 0 = .ok (.aload_n 0, 1) := by decide +kernel
theorem dX5_stop_1 : decode cX5_stop 1 = .ok (.iload_n 1, 1) := by decide +kernel
theorem dX5_stop_2 : decode cX5_stop 2 = .ok (.invokevirtual 109, 3) := by decide +kernel
theorem dX5_stop_5 : decode cX5_stop 5 = .ok (.astore_n 2, 1) := by decide +kernel
theorem dX5_stop_6 : decode cX5_stop 6 = .ok (.aload_n 2, 1) := by decide +kernel
theorem dX5_stop_7 : decode cX5_stop 7 = .ok (.invokestatic 118, 3) := by decide +kernel
theorem dX5_stop_10 : decode cX5_stop 10 = .ok (.astore_n 3, 1) := by decide +kernel
theorem dX5_stop_11 : decode cX5_stop 11 = .ok (.aload_n 2, 1) := by decide +kernel
theorem dX5_stop_12 : decode cX5_stop 12 = .ok (.getfield 113, 3) := by decide +kernel
theorem dX5_stop_15 : decode cX5_stop 15 = .ok (.iconst 1, 1) := by decide +kernel
theorem dX5_stop_16 : decode cX5_stop 16 = .ok (.if_icmp .ne 7, 3) := by decide +kernel
theorem dX5_stop_19 : decode cX5_stop 19 = .ok (.iconst 1, 1) := by decide +kernel
theorem dX5_stop_20 : decode cX5_stop 20 = .ok (.goto 4, 3) := by decide +kernel
theorem dX5_stop_23 : decode cX5_stop 23 = .ok (.iconst 0, 1) := by decide +kernel
theorem dX5_stop_24 : decode cX5_stop 24 = .ok (.invokestatic 48, 3) := by decide +kernel
theorem dX5_stop_27 : decode cX5_stop 27 = .ok (.aload_n 3, 1) := by decide +kernel
theorem dX5_stop_28 : decode cX5_stop 28 = .ok (.aload_n 2, 1) := by decide +kernel
theorem dX5_stop_29 : decode cX5_stop 29 = .ok (.aload_n 0, 1) := by decide +kernel
theorem dX5_stop_30 : decode cX5_stop 30 = .ok (.getfield 10, 3) := by decide +kernel
theorem dX5_stop_33 : decode cX5_stop 33 = .ok (.invokevirtual 122, 3) := by decide +kernel
theorem dX5_stop_36 : decode cX5_stop 36 = .ok (.return_, 1) := by decide +kernel
theorem dX5_again_0 : decode cX5_again 0 = .ok (.aload_n 0, 1) := by decide +kernel
theorem dX5_again_1 : decode cX5_again 1 = .ok (.iload_n 1, 1) := by decide +kernel
theorem dX5_again_2 : decode cX5_again 2 = .ok (.invokevirtual 109, 3) := by decide +kernel
theorem dX5_again_5 : decode cX5_again 5 = .ok (.astore_n 2, 1) := by decide +kernel
theorem dX5_again_6 : decode cX5_again 6 = .ok (.aload_n 2, 1) := by decide +kernel
theorem dX5_again_7 : decode cX5_again 7 = .ok (.invokestatic 118, 3) := by decide +kernel
theorem dX5_again_10 : decode cX5_again 10 = .ok (.astore_n 3, 1) := by decide +kernel
theorem dX5_again_11 : decode cX5_again 11 = .ok (.aload_n 2, 1) := by decide +kernel
theorem dX5_again_12 : decode cX5_again 12 = .ok (.getfield 113, 3) := by decide +kernel
theorem dX5_again_15 : decode cX5_again 15 = .ok (.iconst 1, 1) := by decide +kernel
theorem dX5_again_16 : decode cX5_again 16 = .ok (.if_icmp .eq 15, 3) := by decide +kernel
theorem dX5_again_19 : decode cX5_again 19 = .ok (.aload_n 3, 1) := by decide +kernel
theorem dX5_again_20 : decode cX5_again 20 = .ok (.getfield 45, 3) := by decide +kernel
theorem dX5_again_23 : decode cX5_again 23 = .ok (.iconst 1, 1) := by decide +kernel
theorem dX5_again_24 : decode cX5_again 24 = .ok (.if_icmp .ne 7, 3) := by decide +kernel
theorem dX5_again_27 : decode cX5_again 27 = .ok (.iconst 1, 1) := by decide +kernel
theorem dX5_again_28 : decode cX5_again 28 = .ok (.goto 4, 3) := by decide +kernel
theorem dX5_again_31 : decode cX5_again 31 = .ok (.iconst 0, 1) := by decide +kernel
theorem dX5_again_32 : decode cX5_again 32 = .ok (.invokestatic 48, 3) := by decide +kernel
theorem dX5_again_35 : decode cX5_again 35 = .ok (.aload_n 2, 1) := by decide +kernel
theorem dX5_again_36 : decode cX5_again 36 = .ok (.aload_n 0, 1) := by decide +kernel
theorem dX5_again_37 : decode cX5_again 37 = .ok (.getfield 10, 3) := by decide +kernel
theorem dX5_again_40 : decode cX5_again 40 = .ok (.invokevirtual 126, 3) := by decide +kernel
theorem dX5_again_43 : decode cX5_again 43 = .ok (.ireturn, 1) := by decide +kernel
theorem dX5_remove_0 : decode cX5_remove 0 = .ok (.aload_n 0, 1) := by decide +kernel
theorem dX5_remove_1 : decode cX5_remove 1 = .ok (.iload_n 1, 1) := by decide +kernel
theorem dX5_remove_2 : decode cX5_remove 2 = .ok (.invokevirtual 109, 3) := by decide +kernel
theorem dX5_remove_5 : decode cX5_remove 5 = .ok (.astore_n 2, 1) := by decide +kernel
theorem dX5_remove_6 : decode cX5_remove 6 = .ok (.aload_n 2, 1) := by decide +kernel
theorem dX5_remove_7 : decode cX5_remove 7 = .ok (.invokestatic 118, 3) := by decide +kernel
theorem dX5_remove_10 : decode cX5_remove 10 = .ok (.astore_n 3, 1) := by decide +kernel
theorem dX5_remove_11 : decode cX5_remove 11 = .ok (.aload_n 2, 1) := by decide +kernel
theorem dX5_remove_12 : decode cX5_remove 12 = .ok (.getfield 113, 3) := by decide +kernel
theorem dX5_remove_15 : decode cX5_remove 15 = .ok (.iconst 1, 1) := by decide +kernel
theorem dX5_remove_16 : decode cX5_remove 16 = .ok (.if_icmp .eq 7, 3) := by decide +kernel
theorem dX5_remove_19 : decode cX5_remove 19 = .ok (.iconst 1, 1) := by decide +kernel
theorem dX5_remove_20 : decode cX5_remove 20 = .ok (.goto 4, 3) := by decide +kernel
theorem dX5_remove_23 : decode cX5_remove 23 = .ok (.iconst 0, 1) := by decide +kernel
theorem dX5_remove_24 : decode cX5_remove 24 = .ok (.invokestatic 48, 3) := by decide +kernel
theorem dX5_remove_27 : decode cX5_remove 27 = .ok (.aload_n 3, 1) := by decide +kernel
theorem dX5_remove_28 : decode cX5_remove 28 = .ok (.aload_n 2, 1) := by decide +kernel
theorem dX5_remove_29 : decode cX5_remove 29 = .ok (.aload_n 0, 1) := by decide +kernel
theorem dX5_remove_30 : decode cX5_remove 30 = .ok (.getfield 10, 3) := by decide +kernel
theorem dX5_remove_33 : decode cX5_remove 33 = .ok (.invokevirtual 89, 3) := by decide +kernel
theorem dX5_remove_36 : decode cX5_remove 36 = .ok (.ireturn, 1) := by decide +kernel
theorem dX5_pass_0 : decode cX5_pass 0 = .ok (.iload_n 1, 1) := by decide +kernel
theorem dX5_pass_1 : decode cX5_pass 1 = .ok (.iconst 0, 1) := by decide +kernel
theorem dX5_pass_2 : decode cX5_pass 2 = .ok (.sipush 10000, 3) := by decide +kernel
theorem dX5_pass_5 : decode cX5_pass 5 = .ok (.invokestatic 65, 3) := by decide +kernel
theorem dX5_pass_8 : decode cX5_pass 8 = .ok (.aload_n 0, 1) := by decide +kernel
theorem dX5_pass_9 : decode cX5_pass 9 = .ok (.getfield 10, 3) := by decide +kernel
theorem dX5_pass_12 : decode cX5_pass 12 = .ok (.dup, 1) := by decide +kernel
theorem dX5_pass_13 : decode cX5_pass 13 = .ok (.getfield 127, 3) := by decide +kernel
theorem dX5_pass_16 : decode cX5_pass 16 = .ok (.iload_n 1, 1) := by decide +kernel
theorem dX5_pass_17 : decode cX5_pass 17 = .ok (.iadd, 1) := by decide +kernel
theorem dX5_pass_18 : decode cX5_pass 18 = .ok (.putfield 127, 3) := by decide +kernel
theorem dX5_pass_21 : decode cX5_pass 21 = .ok (.aload_n 0, 1) := by decide +kernel
theorem dX5_pass_22 : decode cX5_pass 22 = .ok (.getfield 10, 3) := by decide +kernel
theorem dX5_pass_25 : decode cX5_pass 25 = .ok (.getfield 127, 3) := by decide +kernel
theorem dX5_pass_28 : decode cX5_pass 28 = .ok (.ireturn, 1) := by decide +kernel
theorem dX5_state_0 : decode cX5_state 0 = .ok (.aload_n 0, 1) := by decide +kernel
theorem dX5_state_1 : decode cX5_state 1 = .ok (.iload_n 1, 1) := by decide +kernel
theorem dX5_state_2 : decode cX5_state 2 = .ok (.invokevirtual 130, 3) := by decide +kernel
theorem dX5_state_5 : decode cX5_state 5 = .ok (.getfield 113, 3) := by decide +kernel
theorem dX5_state_8 : decode cX5_state 8 = .ok (.ireturn, 1) := by decide +kernel
theorem dX5_about_0 : decode cX5_about 0 = .ok (.aload_n 0, 1) := by decide +kernel
theorem dX5_about_1 : decode cX5_about 1 = .ok (.iload_n 1, 1) := by decide +kernel
theorem dX5_about_2 : decode cX5_about 2 = .ok (.invokevirtual 109, 3) := by decide +kernel
theorem dX5_about_5 : decode cX5_about 5 = .ok (.astore_n 3, 1) := by decide +kernel
theorem dX5_about_6 : decode cX5_about 6 = .ok (.iload_n 2, 1) := by decide +kernel
theorem dX5_about_7 : decode cX5_about 7 = .ok (.tableswitch 186 0 7 #[45, 64, 84, 89, 94, 107, 133, 163], 45) := by decide +kernel
theorem dX5_about_52 : decode cX5_about 52 = .ok (.aload_n 3, 1) := by decide +kernel
theorem dX5_about_53 : decode cX5_about 53 = .ok (.getfield 133, 3) := by decide +kernel
theorem dX5_about_56 : decode cX5_about 56 = .ok (.ifnonnull 7, 3) := by decide +kernel
theorem dX5_about_59 : decode cX5_about 59 = .ok (.iconst (-1), 1) := by decide +kernel
theorem dX5_about_60 : decode cX5_about 60 = .ok (.goto 10, 3) := by decide +kernel
theorem dX5_about_63 : decode cX5_about 63 = .ok (.aload_n 3, 1) := by decide +kernel
theorem dX5_about_64 : decode cX5_about 64 = .ok (.getfield 133, 3) := by decide +kernel
theorem dX5_about_67 : decode cX5_about 67 = .ok (.getfield 80, 3) := by decide +kernel
theorem dX5_about_70 : decode cX5_about 70 = .ok (.ireturn, 1) := by decide +kernel
theorem dX5_about_71 : decode cX5_about 71 = .ok (.aload_n 3, 1) := by decide +kernel
theorem dX5_about_72 : decode cX5_about 72 = .ok (.getfield 133, 3) := by decide +kernel
theorem dX5_about_75 : decode cX5_about 75 = .ok (.ifnonnull 7, 3) := by decide +kernel
theorem dX5_about_78 : decode cX5_about 78 = .ok (.iconst 0, 1) := by decide +kernel
theorem dX5_about_79 : decode cX5_about 79 = .ok (.goto 11, 3) := by decide +kernel
theorem dX5_about_82 : decode cX5_about 82 = .ok (.aload_n 3, 1) := by decide +kernel
theorem dX5_about_83 : decode cX5_about 83 = .ok (.getfield 133, 3) := by decide +kernel
theorem dX5_about_86 : decode cX5_about 86 = .ok (.aload_n 3, 1) := by decide +kernel
theorem dX5_about_87 : decode cX5_about 87 = .ok (.invokevirtual 136, 3) := by decide +kernel
theorem dX5_about_90 : decode cX5_about 90 = .ok (.ireturn, 1) := by decide +kernel
theorem dX5_about_91 : decode cX5_about 91 = .ok (.aload_n 3, 1) := by decide +kernel
theorem dX5_about_92 : decode cX5_about 92 = .ok (.getfield 140, 3) := by decide +kernel
theorem dX5_about_95 : decode cX5_about 95 = .ok (.ireturn, 1) := by decide +kernel
theorem dX5_about_96 : decode cX5_about 96 = .ok (.aload_n 3, 1) := by decide +kernel
theorem dX5_about_97 : decode cX5_about 97 = .ok (.getfield 143, 3) := by decide +kernel
theorem dX5_about_100 : decode cX5_about 100 = .ok (.ireturn, 1) := by decide +kernel
theorem dX5_about_101 : decode cX5_about 101 = .ok (.aload_n 3, 1) := by decide +kernel
theorem dX5_about_102 : decode cX5_about 102 = .ok (.instanceof 22, 3) := by decide +kernel
theorem dX5_about_105 : decode cX5_about 105 = .ok (.ifCond .eq 7, 3) := by decide +kernel
theorem dX5_about_108 : decode cX5_about 108 = .ok (.iconst 1, 1) := by decide +kernel
theorem dX5_about_109 : decode cX5_about 109 = .ok (.goto 4, 3) := by decide +kernel
theorem dX5_about_112 : decode cX5_about 112 = .ok (.iconst 0, 1) := by decide +kernel
theorem dX5_about_113 : decode cX5_about 113 = .ok (.ireturn, 1) := by decide +kernel
theorem dX5_about_114 : decode cX5_about 114 = .ok (.aload_n 3, 1) := by decide +kernel
theorem dX5_about_115 : decode cX5_about 115 = .ok (.instanceof 22, 3) := by decide +kernel
theorem dX5_about_118 : decode cX5_about 118 = .ok (.ifCond .eq 20, 3) := by decide +kernel
theorem dX5_about_121 : decode cX5_about 121 = .ok (.aload_n 3, 1) := by decide +kernel
theorem dX5_about_122 : decode cX5_about 122 = .ok (.checkcast 22, 3) := by decide +kernel
theorem dX5_about_125 : decode cX5_about 125 = .ok (.astore 4, 2) := by decide +kernel
theorem dX5_about_127 : decode cX5_about 127 = .ok (.aload 4, 2) := by decide +kernel
theorem dX5_about_129 : decode cX5_about 129 = .ok (.getfield 146, 3) := by decide +kernel
theorem dX5_about_132 : decode cX5_about 132 = .ok (.invokevirtual 150, 3) := by decide +kernel
theorem dX5_about_135 : decode cX5_about 135 = .ok (.goto 4, 3) := by decide +kernel
theorem dX5_about_138 : decode cX5_about 138 = .ok (.iconst (-1), 1) := by decide +kernel
theorem dX5_about_139 : decode cX5_about 139 = .ok (.ireturn, 1) := by decide +kernel
theorem dX5_about_140 : decode cX5_about 140 = .ok (.aload_n 3, 1) := by decide +kernel
theorem dX5_about_141 : decode cX5_about 141 = .ok (.instanceof 22, 3) := by decide +kernel
theorem dX5_about_144 : decode cX5_about 144 = .ok (.ifCond .eq 24, 3) := by decide +kernel
theorem dX5_about_147 : decode cX5_about 147 = .ok (.aload_n 3, 1) := by decide +kernel
theorem dX5_about_148 : decode cX5_about 148 = .ok (.checkcast 22, 3) := by decide +kernel
theorem dX5_about_151 : decode cX5_about 151 = .ok (.astore 4, 2) := by decide +kernel
theorem dX5_about_153 : decode cX5_about 153 = .ok (.aload 4, 2) := by decide +kernel
theorem dX5_about_155 : decode cX5_about 155 = .ok (.aload_n 0, 1) := by decide +kernel
theorem dX5_about_156 : decode cX5_about 156 = .ok (.getfield 10, 3) := by decide +kernel
theorem dX5_about_159 : decode cX5_about 159 = .ok (.getfield 127, 3) := by decide +kernel
theorem dX5_about_162 : decode cX5_about 162 = .ok (.invokevirtual 156, 3) := by decide +kernel
theorem dX5_about_165 : decode cX5_about 165 = .ok (.goto 4, 3) := by decide +kernel
theorem dX5_about_168 : decode cX5_about 168 = .ok (.iconst (-1), 1) := by decide +kernel
theorem dX5_about_169 : decode cX5_about 169 = .ok (.ireturn, 1) := by decide +kernel
theorem dX5_about_170 : decode cX5_about 170 = .ok (.aload_n 3, 1) := by decide +kernel
theorem dX5_about_171 : decode cX5_about 171 = .ok (.instanceof 83, 3) := by decide +kernel
theorem dX5_about_174 : decode cX5_about 174 = .ok (.ifCond .eq 17, 3) := by decide +kernel
theorem dX5_about_177 : decode cX5_about 177 = .ok (.aload_n 3, 1) := by decide +kernel
theorem dX5_about_178 : decode cX5_about 178 = .ok (.checkcast 83, 3) := by decide +kernel
theorem dX5_about_181 : decode cX5_about 181 = .ok (.astore 4, 2) := by decide +kernel
theorem dX5_about_183 : decode cX5_about 183 = .ok (.aload 4, 2) := by decide +kernel
theorem dX5_about_185 : decode cX5_about 185 = .ok (.getfield 98, 3) := by decide +kernel
theorem dX5_about_188 : decode cX5_about 188 = .ok (.goto 4, 3) := by decide +kernel
theorem dX5_about_191 : decode cX5_about 191 = .ok (.iconst (-1), 1) := by decide +kernel
theorem dX5_about_192 : decode cX5_about 192 = .ok (.ireturn, 1) := by decide +kernel
theorem dX5_about_193 : decode cX5_about 193 = .ok (.new 160, 3) := by decide +kernel
theorem dX5_about_196 : decode cX5_about 196 = .ok (.dup, 1) := by decide +kernel
theorem dX5_about_197 : decode cX5_about 197 = .ok (.invokespecial 162, 3) := by decide +kernel
theorem dX5_about_200 : decode cX5_about 200 = .ok (.athrow, 1) := by decide +kernel
theorem dX5_child_0 : decode cX5_child 0 = .ok (.aload_n 0, 1) := by decide +kernel
theorem dX5_child_1 : decode cX5_child 1 = .ok (.iload_n 1, 1) := by decide +kernel
theorem dX5_child_2 : decode cX5_child 2 = .ok (.invokevirtual 61, 3) := by decide +kernel
theorem dX5_child_5 : decode cX5_child 5 = .ok (.astore_n 3, 1) := by decide +kernel
theorem dX5_child_6 : decode cX5_child 6 = .ok (.iload_n 2, 1) := by decide +kernel
theorem dX5_child_7 : decode cX5_child 7 = .ok (.ifCond .lt 31, 3) := by decide +kernel
theorem dX5_child_10 : decode cX5_child 10 = .ok (.iload_n 2, 1) := by decide +kernel
theorem dX5_child_11 : decode cX5_child 11 = .ok (.aload_n 3, 1) := by decide +kernel
theorem dX5_child_12 : decode cX5_child 12 = .ok (.getfield 146, 3) := by decide +kernel
theorem dX5_child_15 : decode cX5_child 15 = .ok (.invokevirtual 150, 3) := by decide +kernel
theorem dX5_child_18 : decode cX5_child 18 = .ok (.if_icmp .ge 20, 3) := by decide +kernel
theorem dX5_child_21 : decode cX5_child 21 = .ok (.aload_n 3, 1) := by decide +kernel
theorem dX5_child_22 : decode cX5_child 22 = .ok (.getfield 146, 3) := by decide +kernel
theorem dX5_child_25 : decode cX5_child 25 = .ok (.iload_n 2, 1) := by decide +kernel
theorem dX5_child_26 : decode cX5_child 26 = .ok (.invokevirtual 163, 3) := by decide +kernel
theorem dX5_child_29 : decode cX5_child 29 = .ok (.checkcast 16, 3) := by decide +kernel
theorem dX5_child_32 : decode cX5_child 32 = .ok (.getfield 167, 3) := by decide +kernel
theorem dX5_child_35 : decode cX5_child 35 = .ok (.goto 4, 3) := by decide +kernel
theorem dX5_child_38 : decode cX5_child 38 = .ok (.iconst (-1), 1) := by decide +kernel
theorem dX5_child_39 : decode cX5_child 39 = .ok (.ireturn, 1) := by decide +kernel
theorem dX5_event_0 : decode cX5_event 0 = .ok (.iload_n 2, 1) := by decide +kernel
theorem dX5_event_1 : decode cX5_event 1 = .ok (.iconst 0, 1) := by decide +kernel
theorem dX5_event_2 : decode cX5_event 2 = .ok (.iconst 3, 1) := by decide +kernel
theorem dX5_event_3 : decode cX5_event 3 = .ok (.invokestatic 65, 3) := by decide +kernel
theorem dX5_event_6 : decode cX5_event 6 = .ok (.aload_n 0, 1) := by decide +kernel
theorem dX5_event_7 : decode cX5_event 7 = .ok (.getfield 10, 3) := by decide +kernel
theorem dX5_event_10 : decode cX5_event 10 = .ok (.iload_n 1, 1) := by decide +kernel
theorem dX5_event_11 : decode cX5_event 11 = .ok (.iload_n 2, 1) := by decide +kernel
theorem dX5_event_12 : decode cX5_event 12 = .ok (.invokevirtual 168, 3) := by decide +kernel
theorem dX5_event_15 : decode cX5_event 15 = .ok (.ireturn, 1) := by decide +kernel
theorem dX5_total_0 : decode cX5_total 0 = .ok (.iload_n 1, 1) := by decide +kernel
theorem dX5_total_1 : decode cX5_total 1 = .ok (.tableswitch 86 0 6 #[43, 51, 56, 62, 68, 76, 81], 43) := by decide +kernel
theorem dX5_total_44 : decode cX5_total 44 = .ok (.aload_n 0, 1) := by decide +kernel
theorem dX5_total_45 : decode cX5_total 45 = .ok (.getfield 10, 3) := by decide +kernel
theorem dX5_total_48 : decode cX5_total 48 = .ok (.getfield 127, 3) := by decide +kernel
theorem dX5_total_51 : decode cX5_total 51 = .ok (.ireturn, 1) := by decide +kernel
theorem dX5_total_52 : decode cX5_total 52 = .ok (.aload_n 0, 1) := by decide +kernel
theorem dX5_total_53 : decode cX5_total 53 = .ok (.getfield 31, 3) := by decide +kernel
theorem dX5_total_56 : decode cX5_total 56 = .ok (.ireturn, 1) := by decide +kernel
theorem dX5_total_57 : decode cX5_total 57 = .ok (.aload_n 0, 1) := by decide +kernel
theorem dX5_total_58 : decode cX5_total 58 = .ok (.iconst 1, 1) := by decide +kernel
theorem dX5_total_59 : decode cX5_total 59 = .ok (.invokevirtual 172, 3) := by decide +kernel
theorem dX5_total_62 : decode cX5_total 62 = .ok (.ireturn, 1) := by decide +kernel
theorem dX5_total_63 : decode cX5_total 63 = .ok (.aload_n 0, 1) := by decide +kernel
theorem dX5_total_64 : decode cX5_total 64 = .ok (.iconst 2, 1) := by decide +kernel
theorem dX5_total_65 : decode cX5_total 65 = .ok (.invokevirtual 172, 3) := by decide +kernel
theorem dX5_total_68 : decode cX5_total 68 = .ok (.ireturn, 1) := by decide +kernel
theorem dX5_total_69 : decode cX5_total 69 = .ok (.aload_n 0, 1) := by decide +kernel
theorem dX5_total_70 : decode cX5_total 70 = .ok (.getfield 10, 3) := by decide +kernel
theorem dX5_total_73 : decode cX5_total 73 = .ok (.getfield 175, 3) := by decide +kernel
theorem dX5_total_76 : decode cX5_total 76 = .ok (.ireturn, 1) := by decide +kernel
theorem dX5_total_77 : decode cX5_total 77 = .ok (.aload_n 0, 1) := by decide +kernel
theorem dX5_total_78 : decode cX5_total 78 = .ok (.getfield 35, 3) := by decide +kernel
theorem dX5_total_81 : decode cX5_total 81 = .ok (.ireturn, 1) := by decide +kernel
theorem dX5_total_82 : decode cX5_total 82 = .ok (.aload_n 0, 1) := by decide +kernel
theorem dX5_total_83 : decode cX5_total 83 = .ok (.getfield 38, 3) := by decide +kernel
theorem dX5_total_86 : decode cX5_total 86 = .ok (.ireturn, 1) := by decide +kernel
theorem dX5_total_87 : decode cX5_total 87 = .ok (.new 160, 3) := by decide +kernel
theorem dX5_total_90 : decode cX5_total 90 = .ok (.dup, 1) := by decide +kernel
theorem dX5_total_91 : decode cX5_total 91 = .ok (.invokespecial 162, 3) := by decide +kernel
theorem dX5_total_94 : decode cX5_total 94 = .ok (.athrow, 1) := by decide +kernel
theorem dX5_wantWithin_0 : decode cX5_wantWithin 0 = .ok (.iload_n 0, 1) := by decide +kernel
theorem dX5_wantWithin_1 : decode cX5_wantWithin 1 = .ok (.iload_n 1, 1) := by decide +kernel
theorem dX5_wantWithin_2 : decode cX5_wantWithin 2 = .ok (.if_icmp .lt 8, 3) := by decide +kernel
theorem dX5_wantWithin_5 : decode cX5_wantWithin 5 = .ok (.iload_n 0, 1) := by decide +kernel
theorem dX5_wantWithin_6 : decode cX5_wantWithin 6 = .ok (.iload_n 2, 1) := by decide +kernel
