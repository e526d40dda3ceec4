theorem dX1_init_0 : decode cX1_init 0 = .ok (.aload_n 0, 1) := by decide +kernel
theorem dX1_init_1 : decode cX1_init 1 = .ok (.invokespecial 3, 3) := by decide +kernel
theorem dX1_init_4 : decode cX1_init 4 = .ok (.aload_n 0, 1) := by decide +kernel
theorem dX1_init_5 : decode cX1_init 5 = .ok (.getstatic 9, 3) := by decide +kernel
theorem dX1_init_8 : decode cX1_init 8 = .ok (.invokevirtual 13, 3) := by decide +kernel
theorem dX1_init_11 : decode cX1_init 11 = .ok (.checkcast 14, 3) := by decide +kernel
theorem dX1_init_14 : decode cX1_init 14 = .ok (.putfield 18, 3) := by decide +kernel
theorem dX1_init_17 : decode cX1_init 17 = .ok (.aload_n 0, 1) := by decide +kernel
theorem dX1_init_18 : decode cX1_init 18 = .ok (.bipush 40, 2) := by decide +kernel
theorem dX1_init_20 : decode cX1_init 20 = .ok (.newarray .boolean, 2) := by decide +kernel
theorem dX1_init_22 : decode cX1_init 22 = .ok (.putfield 23, 3) := by decide +kernel
theorem dX1_init_25 : decode cX1_init 25 = .ok (.aload_n 0, 1) := by decide +kernel
theorem dX1_init_26 : decode cX1_init 26 = .ok (.new 27, 3) := by decide +kernel
theorem dX1_init_29 : decode cX1_init 29 = .ok (.dup, 1) := by decide +kernel
theorem dX1_init_30 : decode cX1_init 30 = .ok (.invokespecial 29, 3) := by decide +kernel
theorem dX1_init_33 : decode cX1_init 33 = .ok (.putfield 30, 3) := by decide +kernel
theorem dX1_init_36 : decode cX1_init 36 = .ok (.aload_n 0, 1) := by decide +kernel
theorem dX1_init_37 : decode cX1_init 37 = .ok (.new 34, 3) := by decide +kernel
theorem dX1_init_40 : decode cX1_init 40 = .ok (.dup, 1) := by decide +kernel
theorem dX1_init_41 : decode cX1_init 41 = .ok (.invokespecial 36, 3) := by decide +kernel
theorem dX1_init_44 : decode cX1_init 44 = .ok (.putfield 37, 3) := by decide +kernel
theorem dX1_init_47 : decode cX1_init 47 = .ok (.aload_n 0, 1) := by decide +kernel
theorem dX1_init_48 : decode cX1_init 48 = .ok (.new 41, 3) := by decide +kernel
theorem dX1_init_51 : decode cX1_init 51 = .ok (.dup, 1) := by decide +kernel
theorem dX1_init_52 : decode cX1_init 52 = .ok (.invokespecial 43, 3) := by decide +kernel
theorem dX1_init_55 : decode cX1_init 55 = .ok (.putfield 44, 3) := by decide +kernel
theorem dX1_init_58 : decode cX1_init 58 = .ok (.return_, 1) := by decide +kernel
theorem dX1_copyFrom_0 : decode cX1_copyFrom 0 = .ok (.aload_n 0, 1) := by decide +kernel
theorem dX1_copyFrom_1 : decode cX1_copyFrom 1 = .ok (.aload_n 1, 1) := by decide +kernel
theorem dX1_copyFrom_2 : decode cX1_copyFrom 2 = .ok (.getfield 48, 3) := by decide +kernel
theorem dX1_copyFrom_5 : decode cX1_copyFrom 5 = .ok (.putfield 48, 3) := by decide +kernel
theorem dX1_copyFrom_8 : decode cX1_copyFrom 8 = .ok (.aload_n 1, 1) := by decide +kernel
theorem dX1_copyFrom_9 : decode cX1_copyFrom 9 = .ok (.getfield 18, 3) := by decide +kernel
theorem dX1_copyFrom_12 : decode cX1_copyFrom 12 = .ok (.iconst 0, 1) := by decide +kernel
theorem dX1_copyFrom_13 : decode cX1_copyFrom 13 = .ok (.aload_n 0, 1) := by decide +kernel
theorem dX1_copyFrom_14 : decode cX1_copyFrom 14 = .ok (.getfield 18, 3) := by decide +kernel
theorem dX1_copyFrom_17 : decode cX1_copyFrom 17 = .ok (.iconst 0, 1) := by decide +kernel
theorem dX1_copyFrom_18 : decode cX1_copyFrom 18 = .ok (.iconst 4, 1) := by decide +kernel
theorem dX1_copyFrom_19 : decode cX1_copyFrom 19 = .ok (.invokestatic 52, 3) := by decide +kernel
theorem dX1_copyFrom_22 : decode cX1_copyFrom 22 = .ok (.iconst 0, 1) := by decide +kernel
theorem dX1_copyFrom_23 : decode cX1_copyFrom 23 = .ok (.istore_n 2, 1) := by decide +kernel
theorem dX1_copyFrom_24 : decode cX1_copyFrom 24 = .ok (.iload_n 2, 1) := by decide +kernel
theorem dX1_copyFrom_25 : decode cX1_copyFrom 25 = .ok (.bipush 40, 2) := by decide +kernel
theorem dX1_copyFrom_27 : decode cX1_copyFrom 27 = .ok (.if_icmp .ge 21, 3) := by decide +kernel
theorem dX1_copyFrom_30 : decode cX1_copyFrom 30 = .ok (.aload_n 0, 1) := by decide +kernel
theorem dX1_copyFrom_31 : decode cX1_copyFrom 31 = .ok (.getfield 23, 3) := by decide +kernel
theorem dX1_copyFrom_34 : decode cX1_copyFrom 34 = .ok (.iload_n 2, 1) := by decide +kernel
theorem dX1_copyFrom_35 : decode cX1_copyFrom 35 = .ok (.aload_n 1, 1) := by decide +kernel
theorem dX1_copyFrom_36 : decode cX1_copyFrom 36 = .ok (.getfield 23, 3) := by decide +kernel
theorem dX1_copyFrom_39 : decode cX1_copyFrom 39 = .ok (.iload_n 2, 1) := by decide +kernel
theorem dX1_copyFrom_40 : decode cX1_copyFrom 40 = .ok (.baload, 1) := by decide +kernel
theorem dX1_copyFrom_41 : decode cX1_copyFrom 41 = .ok (.bastore, 1) := by decide +kernel
theorem dX1_copyFrom_42 : decode cX1_copyFrom 42 = .ok (.iinc 2 1, 3) := by decide +kernel
theorem dX1_copyFrom_45 : decode cX1_copyFrom 45 = .ok (.goto (-21), 3) := by decide +kernel
theorem dX1_copyFrom_48 : decode cX1_copyFrom 48 = .ok (.aload_n 0, 1) := by decide +kernel
theorem dX1_copyFrom_49 : decode cX1_copyFrom 49 = .ok (.getfield 30, 3) := by decide +kernel
theorem dX1_copyFrom_52 : decode cX1_copyFrom 52 = .ok (.aload_n 1, 1) := by decide +kernel
theorem dX1_copyFrom_53 : decode cX1_copyFrom 53 = .ok (.getfield 30, 3) := by decide +kernel
theorem dX1_copyFrom_56 : decode cX1_copyFrom 56 = .ok (.invokevirtual 58, 3) := by decide +kernel
theorem dX1_copyFrom_59 : decode cX1_copyFrom 59 = .ok (.aload_n 0, 1) := by decide +kernel
theorem dX1_copyFrom_60 : decode cX1_copyFrom 60 = .ok (.getfield 37, 3) := by decide +kernel
theorem dX1_copyFrom_63 : decode cX1_copyFrom 63 = .ok (.aload_n 1, 1) := by decide +kernel
theorem dX1_copyFrom_64 : decode cX1_copyFrom 64 = .ok (.getfield 37, 3) := by decide +kernel
theorem dX1_copyFrom_67 : decode cX1_copyFrom 67 = .ok (.invokevirtual 62, 3) := by decide +kernel
theorem dX1_copyFrom_70 : decode cX1_copyFrom 70 = .ok (.aload_n 0, 1) := by decide +kernel
theorem dX1_copyFrom_71 : decode cX1_copyFrom 71 = .ok (.getfield 44, 3) := by decide +kernel
theorem dX1_copyFrom_74 : decode cX1_copyFrom 74 = .ok (.aload_n 1, 1) := by decide +kernel
theorem dX1_copyFrom_75 : decode cX1_copyFrom 75 = .ok (.getfield 44, 3) := by decide +kernel
theorem dX1_copyFrom_78 : decode cX1_copyFrom 78 = .ok (.invokevirtual 65, 3) := by decide +kernel
theorem dX1_copyFrom_81 : decode cX1_copyFrom 81 = .ok (.return_, 1) := by decide +kernel
theorem dX1_bringTeam_0 : decode cX1_bringTeam 0 = .ok (.iload_n 1, 1) := by decide +kernel
theorem dX1_bringTeam_1 : decode cX1_bringTeam 1 = .ok (.ifCond .lt 10, 3) := by decide +kernel
theorem dX1_bringTeam_4 : decode cX1_bringTeam 4 = .ok (.iload_n 1, 1) := by decide +kernel
theorem dX1_bringTeam_5 : decode cX1_bringTeam 5 = .ok (.sipush 999, 3) := by decide +kernel
theorem dX1_bringTeam_8 : decode cX1_bringTeam 8 = .ok (.if_icmp .le 6, 3) := by decide +kernel
theorem dX1_bringTeam_11 : decode cX1_bringTeam 11 = .ok (.bipush (-2), 2) := by decide +kernel
theorem dX1_bringTeam_13 : decode cX1_bringTeam 13 = .ok (.ireturn, 1) := by decide +kernel
theorem dX1_bringTeam_14 : decode cX1_bringTeam 14 = .ok (.aload_n 0, 1) := by decide +kernel
theorem dX1_bringTeam_15 : decode cX1_bringTeam 15 = .ok (.getfield 30, 3) := by decide +kernel
theorem dX1_bringTeam_18 : decode cX1_bringTeam 18 = .ok (.getfield 68, 3) := by decide +kernel
theorem dX1_bringTeam_21 : decode cX1_bringTeam 21 = .ok (.bipush 6, 2) := by decide +kernel
theorem dX1_bringTeam_23 : decode cX1_bringTeam 23 = .ok (.if_icmp .lt 6, 3) := by decide +kernel
theorem dX1_bringTeam_26 : decode cX1_bringTeam 26 = .ok (.bipush (-3), 2) := by decide +kernel
theorem dX1_bringTeam_28 : decode cX1_bringTeam 28 = .ok (.ireturn, 1) := by decide +kernel
theorem dX1_bringTeam_29 : decode cX1_bringTeam 29 = .ok (.aload_n 0, 1) := by decide +kernel
theorem dX1_bringTeam_30 : decode cX1_bringTeam 30 = .ok (.getfield 30, 3) := by decide +kernel
theorem dX1_bringTeam_33 : decode cX1_bringTeam 33 = .ok (.iload_n 1, 1) := by decide +kernel
theorem dX1_bringTeam_34 : decode cX1_bringTeam 34 = .ok (.invokevirtual 71, 3) := by decide +kernel
theorem dX1_bringTeam_37 : decode cX1_bringTeam 37 = .ok (.ireturn, 1) := by decide +kernel
theorem dX1_markWeeks_0 : decode cX1_markWeeks 0 = .ok (.iload_n 1, 1) := by decide +kernel
theorem dX1_markWeeks_1 : decode cX1_markWeeks 1 = .ok (.ifCond .lt 14, 3) := by decide +kernel
theorem dX1_markWeeks_4 : decode cX1_markWeeks 4 = .ok (.iload_n 2, 1) := by decide +kernel
theorem dX1_markWeeks_5 : decode cX1_markWeeks 5 = .ok (.iload_n 1, 1) := by decide +kernel
theorem dX1_markWeeks_6 : decode cX1_markWeeks 6 = .ok (.if_icmp .lt 9, 3) := by decide +kernel
theorem dX1_markWeeks_9 : decode cX1_markWeeks 9 = .ok (.iload_n 2, 1) := by decide +kernel
theorem dX1_markWeeks_10 : decode cX1_markWeeks 10 = .ok (.bipush 39, 2) := by decide +kernel
theorem dX1_markWeeks_12 : decode cX1_markWeeks 12 = .ok (.if_icmp .le 6, 3) := by decide +kernel
theorem dX1_markWeeks_15 : decode cX1_markWeeks 15 = .ok (.bipush (-2), 2) := by decide +kernel
theorem dX1_markWeeks_17 : decode cX1_markWeeks 17 = .ok (.ireturn, 1) := by decide +kernel
theorem dX1_markWeeks_18 : decode cX1_markWeeks 18 = .ok (.iload_n 1, 1) := by decide +kernel
theorem dX1_markWeeks_19 : decode cX1_markWeeks 19 = .ok (.aload_n 0, 1) := by decide +kernel
theorem dX1_markWeeks_20 : decode cX1_markWeeks 20 = .ok (.getfield 48, 3) := by decide +kernel
theorem dX1_markWeeks_23 : decode cX1_markWeeks 23 = .ok (.if_icmp .ge 6, 3) := by decide +kernel
theorem dX1_markWeeks_26 : decode cX1_markWeeks 26 = .ok (.bipush (-3), 2) := by decide +kernel
theorem dX1_markWeeks_28 : decode cX1_markWeeks 28 = .ok (.ireturn, 1) := by decide +kernel
theorem dX1_markWeeks_29 : decode cX1_markWeeks 29 = .ok (.iload_n 1, 1) := by decide +kernel
theorem dX1_markWeeks_30 : decode cX1_markWeeks 30 = .ok (.istore 4, 2) := by decide +kernel
theorem dX1_markWeeks_32 : decode cX1_markWeeks 32 = .ok (.iload 4, 2) := by decide +kernel
theorem dX1_markWeeks_34 : decode cX1_markWeeks 34 = .ok (.iload_n 2, 1) := by decide +kernel
theorem dX1_markWeeks_35 : decode cX1_markWeeks 35 = .ok (.if_icmp .gt 17, 3) := by decide +kernel
theorem dX1_markWeeks_38 : decode cX1_markWeeks 38 = .ok (.aload_n 0, 1) := by decide +kernel
theorem dX1_markWeeks_39 : decode cX1_markWeeks 39 = .ok (.getfield 23, 3) := by decide +kernel
theorem dX1_markWeeks_42 : decode cX1_markWeeks 42 = .ok (.iload 4, 2) := by decide +kernel
theorem dX1_markWeeks_44 : decode cX1_markWeeks 44 = .ok (.iload_n 3, 1) := by decide +kernel
theorem dX1_markWeeks_45 : decode cX1_markWeeks 45 = .ok (.bastore, 1) := by decide +kernel
theorem dX1_markWeeks_46 : decode cX1_markWeeks 46 = .ok (.iinc 4 1, 3) := by decide +kernel
theorem dX1_markWeeks_49 : decode cX1_markWeeks 49 = .ok (.goto (-17), 3) := by decide +kernel
theorem dX1_markWeeks_52 : decode cX1_markWeeks 52 = .ok (.aload_n 0, 1) := by decide +kernel
theorem dX1_markWeeks_53 : decode cX1_markWeeks 53 = .ok (.iconst 0, 1) := by decide +kernel
theorem dX1_markWeeks_54 : decode cX1_markWeeks 54 = .ok (.invokevirtual 75, 3) := by decide +kernel
theorem dX1_markWeeks_57 : decode cX1_markWeeks 57 = .ok (.ireturn, 1) := by decide +kernel
theorem dX1_changeSetting_0 : decode cX1_changeSetting 0 = .ok (.iload_n 1, 1) := by decide +kernel
theorem dX1_changeSetting_1 : decode cX1_changeSetting 1 = .ok (.ifCond .lt 8, 3) := by decide +kernel
theorem dX1_changeSetting_4 : decode cX1_changeSetting 4 = .ok (.iload_n 1, 1) := by decide +kernel
theorem dX1_changeSetting_5 : decode cX1_changeSetting 5 = .ok (.iconst 4, 1) := by decide +kernel
theorem dX1_changeSetting_6 : decode cX1_changeSetting 6 = .ok (.if_icmp .lt 6, 3) := by decide +kernel
theorem dX1_changeSetting_9 : decode cX1_changeSetting 9 = .ok (.bipush (-2), 2) := by decide +kernel
theorem dX1_changeSetting_11 : decode cX1_changeSetting 11 = .ok (.ireturn, 1) := by decide +kernel
theorem dX1_changeSetting_12 : decode cX1_changeSetting 12 = .ok (.iload_n 2, 1) := by decide +kernel
theorem dX1_changeSetting_13 : decode cX1_changeSetting 13 = .ok (.getstatic 78, 3) := by decide +kernel
theorem dX1_changeSetting_16 : decode cX1_changeSetting 16 = .ok (.iload_n 1, 1) := by decide +kernel
theorem dX1_changeSetting_17 : decode cX1_changeSetting 17 = .ok (.iaload, 1) := by decide +kernel
theorem dX1_changeSetting_18 : decode cX1_changeSetting 18 = .ok (.if_icmp .lt 12, 3) := by decide +kernel
theorem dX1_changeSetting_21 : decode cX1_changeSetting 21 = .ok (.iload_n 2, 1) := by decide +kernel
theorem dX1_changeSetting_22 : decode cX1_changeSetting 22 = .ok (.getstatic 81, 3) := by decide +kernel
theorem dX1_changeSetting_25 : decode cX1_changeSetting 25 = .ok (.iload_n 1, 1) := by decide +kernel
theorem dX1_changeSetting_26 : decode cX1_changeSetting 26 = .ok (.iaload, 1) := by decide +kernel
theorem dX1_changeSetting_27 : decode cX1_changeSetting 27 = .ok (.if_icmp .le 6, 3) := by decide +kernel
theorem dX1_changeSetting_30 : decode cX1_changeSetting 30 = .ok (.bipush (-2), 2) := by decide +kernel
theorem dX1_changeSetting_32 : decode cX1_changeSetting 32 = .ok (.ireturn, 1) := by decide +kernel
theorem dX1_changeSetting_33 : decode cX1_changeSetting 33 = .ok (.aload_n 0, 1) := by decide +kernel
theorem dX1_changeSetting_34 : decode cX1_changeSetting 34 = .ok (.getfield 18, 3) := by decide +kernel
theorem dX1_changeSetting_37 : decode cX1_changeSetting 37 = .ok (.iload_n 1, 1) := by decide +kernel
theorem dX1_changeSetting_38 : decode cX1_changeSetting 38 = .ok (.iaload, 1) := by decide +kernel
theorem dX1_changeSetting_39 : decode cX1_changeSetting 39 = .ok (.istore_n 3, 1) := by decide +kernel
theorem dX1_changeSetting_40 : decode cX1_changeSetting 40 = .ok (.aload_n 0, 1) := by decide +kernel
theorem dX1_changeSetting_41 : decode cX1_changeSetting 41 = .ok (.getfield 18, 3) := by decide +kernel
theorem dX1_changeSetting_44 : decode cX1_changeSetting 44 = .ok (.iload_n 1, 1) := by decide +kernel
theorem dX1_changeSetting_45 : decode cX1_changeSetting 45 = .ok (.iload_n 2, 1) := by decide +kernel
theorem dX1_changeSetting_46 : decode cX1_changeSetting 46 = .ok (.iastore, 1) := by decide +kernel
theorem dX1_changeSetting_47 : decode cX1_changeSetting 47 = .ok (.iload_n 3, 1) := by decide +kernel
theorem dX1_changeSetting_48 : decode cX1_changeSetting 48 = .ok (.ireturn, 1) := by decide +kernel
theorem dX1_closeWeek_0 : decode cX1_closeWeek 0 = .ok (.aload_n 0, 1) := by decide +kernel
theorem dX1_closeWeek_1 : decode cX1_closeWeek 1 = .ok (.getfield 48, 3) := by decide +kernel
theorem dX1_closeWeek_4 : decode cX1_closeWeek 4 = .ok (.bipush 39, 2) := by decide +kernel
theorem dX1_closeWeek_6 : decode cX1_closeWeek 6 = .ok (.if_icmp .lt 6, 3) := by decide +kernel
theorem dX1_closeWeek_9 : decode cX1_closeWeek 9 = .ok (.bipush (-3), 2) := by decide +kernel
theorem dX1_closeWeek_11 : decode cX1_closeWeek 11 = .ok (.ireturn, 1) := by decide +kernel
theorem dX1_closeWeek_12 : decode cX1_closeWeek 12 = .ok (.aload_n 0, 1) := by decide +kernel
theorem dX1_closeWeek_13 : decode cX1_closeWeek 13 = .ok (.invokevirtual 84, 3) := by decide +kernel
theorem dX1_closeWeek_16 : decode cX1_closeWeek 16 = .ok (.istore_n 1, 1) := by decide +kernel
theorem dX1_closeWeek_17 : decode cX1_closeWeek 17 = .ok (.aload_n 0, 1) := by decide +kernel
theorem dX1_closeWeek_18 : decode cX1_closeWeek 18 = .ok (.invokevirtual 88, 3) := by decide +kernel
theorem dX1_closeWeek_21 : decode cX1_closeWeek 21 = .ok (.aload_n 0, 1) := by decide +kernel
theorem dX1_closeWeek_22 : decode cX1_closeWeek 22 = .ok (.dup, 1) := by decide +kernel
theorem dX1_closeWeek_23 : decode cX1_closeWeek 23 = .ok (.getfield 48, 3) := by decide +kernel
theorem dX1_closeWeek_26 : decode cX1_closeWeek 26 = .ok (.iconst 1, 1) := by decide +kernel
theorem dX1_closeWeek_27 : decode cX1_closeWeek 27 = .ok (.iadd, 1) := by decide +kernel
theorem dX1_closeWeek_28 : decode cX1_closeWeek 28 = .ok (.putfield 48, 3) := by decide +kernel
theorem dX1_closeWeek_31 : decode cX1_closeWeek 31 = .ok (.iload_n 1, 1) := by decide +kernel
theorem dX1_closeWeek_32 : decode cX1_closeWeek 32 = .ok (.ireturn, 1) := by decide +kernel
theorem dX1_earnAll_0 : decode cX1_earnAll 0 = .ok (.iconst 0, 1) := by decide +kernel
theorem dX1_earnAll_1 : decode cX1_earnAll 1 = .ok (.istore_n 1, 1) := by decide +kernel
theorem dX1_earnAll_2 : decode cX1_earnAll 2 = .ok (.iconst 0, 1) := by decide +kernel
theorem dX1_earnAll_3 : decode cX1_earnAll 3 = .ok (.istore_n 2, 1) := by decide +kernel
theorem dX1_earnAll_4 : decode cX1_earnAll 4 = .ok (.iload_n 2, 1) := by decide +kernel
theorem dX1_earnAll_5 : decode cX1_earnAll 5 = .ok (.aload_n 0, 1) := by decide +kernel
theorem dX1_earnAll_6 : decode cX1_earnAll 6 = .ok (.getfield 30, 3) := by decide +kernel
theorem dX1_earnAll_9 : decode cX1_earnAll 9 = .ok (.getfield 68, 3) := by decide +kernel
theorem dX1_earnAll_12 : decode cX1_earnAll 12 = .ok (.if_icmp .ge 47, 3) := by decide +kernel
theorem dX1_earnAll_15 : decode cX1_earnAll 15 = .ok (.aload_n 0, 1) := by decide +kernel
theorem dX1_earnAll_16 : decode cX1_earnAll 16 = .ok (.getfield 37, 3) := by decide +kernel
theorem dX1_earnAll_19 : decode cX1_earnAll 19 = .ok (.iload_n 2, 1) := by decide +kernel
theorem dX1_earnAll_20 : decode cX1_earnAll 20 = .ok (.aload_n 0, 1) := by decide +kernel
theorem dX1_earnAll_21 : decode cX1_earnAll 21 = .ok (.getfield 48, 3) := by decide +kernel
theorem dX1_earnAll_24 : decode cX1_earnAll 24 = .ok (.invokevirtual 91, 3) := by decide +kernel
theorem dX1_earnAll_27 : decode cX1_earnAll 27 = .ok (.ifCond .ne 26, 3) := by decide +kernel
theorem dX1_earnAll_30 : decode cX1_earnAll 30 = .ok (.iload_n 1, 1) := by decide +kernel
theorem dX1_earnAll_31 : decode cX1_earnAll 31 = .ok (.aload_n 0, 1) := by decide +kernel
theorem dX1_earnAll_32 : decode cX1_earnAll 32 = .ok (.getfield 30, 3) := by decide +kernel
theorem dX1_earnAll_35 : decode cX1_earnAll 35 = .ok (.iload_n 2, 1) := by decide +kernel
theorem dX1_earnAll_36 : decode cX1_earnAll 36 = .ok (.aload_n 0, 1) := by decide +kernel
theorem dX1_earnAll_37 : decode cX1_earnAll 37 = .ok (.getfield 18, 3) := by decide +kernel
theorem dX1_earnAll_40 : decode cX1_earnAll 40 = .ok (.iconst 1, 1) := by decide +kernel
theorem dX1_earnAll_41 : decode cX1_earnAll 41 = .ok (.iaload, 1) := by decide +kernel
theorem dX1_earnAll_42 : decode cX1_earnAll 42 = .ok (.aload_n 0, 1) := by decide +kernel
theorem dX1_earnAll_43 : decode cX1_earnAll 43 = .ok (.getfield 18, 3) := by decide +kernel
theorem dX1_earnAll_46 : decode cX1_earnAll 46 = .ok (.iconst 3, 1) := by decide +kernel
theorem dX1_earnAll_47 : decode cX1_earnAll 47 = .ok (.iaload, 1) := by decide +kernel
theorem dX1_earnAll_48 : decode cX1_earnAll 48 = .ok (.invokevirtual 95, 3) := by decide +kernel
theorem dX1_earnAll_51 : decode cX1_earnAll 51 = .ok (.iadd, 1) := by decide +kernel
theorem dX1_earnAll_52 : decode cX1_earnAll 52 = .ok (.istore_n 1, 1) := by decide +kernel
theorem dX1_earnAll_53 : decode cX1_earnAll 53 = .ok (.iinc 2 1, 3) := by decide +kernel
theorem dX1_earnAll_56 : decode cX1_earnAll 56 = .ok (.goto (-52), 3) := by decide +kernel
theorem dX1_earnAll_59 : decode cX1_earnAll 59 = .ok (.iload_n 1, 1) := by decide +kernel
theorem dX1_earnAll_60 : decode cX1_earnAll 60 = .ok (.ireturn, 1) := by decide +kernel
theorem dX1_collectDueLoans_0 : decode cX1_collectDueLoans 0 = .ok (.iconst 0, 1) := by decide +kernel
theorem dX1_collectDueLoans_1 : decode cX1_collectDueLoans 1 = .ok (.istore_n 1, 1) := by decide +kernel
theorem dX1_collectDueLoans_2 : decode cX1_collectDueLoans 2 = .ok (.iload_n 1, 1) := by decide +kernel
theorem dX1_collectDueLoans_3 : decode cX1_collectDueLoans 3 = .ok (.aload_n 0, 1) := by decide +kernel
theorem dX1_collectDueLoans_4 : decode cX1_collectDueLoans 4 = .ok (.getfield 48, 3) := by decide +kernel
theorem dX1_collectDueLoans_7 : decode cX1_collectDueLoans 7 = .ok (.if_icmp .gt 63, 3) := by decide +kernel
theorem dX1_collectDueLoans_10 : decode cX1_collectDueLoans 10 = .ok (.iconst 0, 1) := by decide +kernel
theorem dX1_collectDueLoans_11 : decode cX1_collectDueLoans 11 = .ok (.istore_n 2, 1) := by decide +kernel
theorem dX1_collectDueLoans_12 : decode cX1_collectDueLoans 12 = .ok (.iload_n 2, 1) := by decide +kernel
theorem dX1_collectDueLoans_13 : decode cX1_collectDueLoans 13 = .ok (.aload_n 0, 1) := by decide +kernel
theorem dX1_collectDueLoans_14 : decode cX1_collectDueLoans 14 = .ok (.getfield 44, 3) := by decide +kernel
theorem dX1_collectDueLoans_17 : decode cX1_collectDueLoans 17 = .ok (.getfield 99, 3) := by decide +kernel
theorem dX1_collectDueLoans_20 : decode cX1_collectDueLoans 20 = .ok (.if_icmp .ge 44, 3) := by decide +kernel
theorem dX1_collectDueLoans_23 : decode cX1_collectDueLoans 23 = .ok (.aload_n 0, 1) := by decide +kernel
theorem dX1_collectDueLoans_24 : decode cX1_collectDueLoans 24 = .ok (.getfield 44, 3) := by decide +kernel
theorem dX1_collectDueLoans_27 : decode cX1_collectDueLoans 27 = .ok (.getfield 100, 3) := by decide +kernel
theorem dX1_collectDueLoans_30 : decode cX1_collectDueLoans 30 = .ok (.iload_n 2, 1) := by decide +kernel
theorem dX1_collectDueLoans_31 : decode cX1_collectDueLoans 31 = .ok (.iaload, 1) := by decide +kernel
theorem dX1_collectDueLoans_32 : decode cX1_collectDueLoans 32 = .ok (.iload_n 1, 1) := by decide +kernel
theorem dX1_collectDueLoans_33 : decode cX1_collectDueLoans 33 = .ok (.if_icmp .ne 25, 3) := by decide +kernel
theorem dX1_collectDueLoans_36 : decode cX1_collectDueLoans 36 = .ok (.aload_n 0, 1) := by decide +kernel
theorem dX1_collectDueLoans_37 : decode cX1_collectDueLoans 37 = .ok (.iload_n 2, 1) := by decide +kernel
theorem dX1_collectDueLoans_38 : decode cX1_collectDueLoans 38 = .ok (.aload_n 0, 1) := by decide +kernel
theorem dX1_collectDueLoans_39 : decode cX1_collectDueLoans 39 = .ok (.getfield 44, 3) := by decide +kernel
theorem dX1_collectDueLoans_42 : decode cX1_collectDueLoans 42 = .ok (.getfield 103, 3) := by decide +kernel
theorem dX1_collectDueLoans_45 : decode cX1_collectDueLoans 45 = .ok (.iload_n 2, 1) := by decide +kernel
theorem dX1_collectDueLoans_46 : decode cX1_collectDueLoans 46 = .ok (.iaload, 1) := by decide +kernel
theorem dX1_collectDueLoans_47 : decode cX1_collectDueLoans 47 = .ok (.aload_n 0, 1) := by decide +kernel
theorem dX1_collectDueLoans_48 : decode cX1_collectDueLoans 48 = .ok (.iload_n 2, 1) := by decide +kernel
theorem dX1_collectDueLoans_49 : decode cX1_collectDueLoans 49 = .ok (.invokevirtual 106, 3) := by decide +kernel
theorem dX1_collectDueLoans_52 : decode cX1_collectDueLoans 52 = .ok (.invokestatic 109, 3) := by decide +kernel
theorem dX1_collectDueLoans_55 : decode cX1_collectDueLoans 55 = .ok (.invokevirtual 115, 3) := by decide +kernel
theorem dX1_collectDueLoans_58 : decode cX1_collectDueLoans 58 = .ok (.iinc 2 1, 3) := by decide +kernel
theorem dX1_collectDueLoans_61 : decode cX1_collectDueLoans 61 = .ok (.goto (-49), 3) := by decide +kernel
theorem dX1_collectDueLoans_64 : decode cX1_collectDueLoans 64 = .ok (.iinc 1 1, 3) := by decide +kernel
theorem dX1_collectDueLoans_67 : decode cX1_collectDueLoans 67 = .ok (.goto (-65), 3) := by decide +kernel
theorem dX1_collectDueLoans_70 : decode cX1_collectDueLoans 70 = .ok (.return_, 1) := by decide +kernel
theorem dX1_freeOfTaker_0 : decode cX1_freeOfTaker 0 = .ok (.aload_n 0, 1) := by decide +kernel
theorem dX1_freeOfTaker_1 : decode cX1_freeOfTaker 1 = .ok (.getfield 30, 3) := by decide +kernel
theorem dX1_freeOfTaker_4 : decode cX1_freeOfTaker 4 = .ok (.getfield 119, 3) := by decide +kernel
theorem dX1_freeOfTaker_7 : decode cX1_freeOfTaker 7 = .ok (.aload_n 0, 1) := by decide +kernel
theorem dX1_freeOfTaker_8 : decode cX1_freeOfTaker 8 = .ok (.getfield 44, 3) := by decide +kernel
theorem dX1_freeOfTaker_11 : decode cX1_freeOfTaker 11 = .ok (.getfield 122, 3) := by decide +kernel
theorem dX1_freeOfTaker_14 : decode cX1_freeOfTaker 14 = .ok (.iload_n 1, 1) := by decide +kernel
theorem dX1_freeOfTaker_15 : decode cX1_freeOfTaker 15 = .ok (.iaload, 1) := by decide +kernel
theorem dX1_freeOfTaker_16 : decode cX1_freeOfTaker 16 = .ok (.iaload, 1) := by decide +kernel
theorem dX1_freeOfTaker_17 : decode cX1_freeOfTaker 17 = .ok (.ireturn, 1) := by decide +kernel
theorem dX1_payBack_0 : decode cX1_payBack 0 = .ok (.aload_n 0, 1) := by decide +kernel
theorem dX1_payBack_1 : decode cX1_payBack 1 = .ok (.getfield 44, 3) := by decide +kernel
theorem dX1_payBack_4 : decode cX1_payBack 4 = .ok (.getfield 103, 3) := by decide +kernel
theorem dX1_payBack_7 : decode cX1_payBack 7 = .ok (.iload_n 1, 1) := by decide +kernel
theorem dX1_payBack_8 : decode cX1_payBack 8 = .ok (.dup2, 1) := by decide +kernel
theorem dX1_payBack_9 : decode cX1_payBack 9 = .ok (.iaload, 1) := by decide +kernel
theorem dX1_payBack_10 : decode cX1_payBack 10 = .ok (.iload_n 2, 1) := by decide +kernel
theorem dX1_payBack_11 : decode cX1_payBack 11 = .ok (.isub, 1) := by decide +kernel
theorem dX1_payBack_12 : decode cX1_payBack 12 = .ok (.iastore, 1) := by decide +kernel
theorem dX1_payBack_13 : decode cX1_payBack 13 = .ok (.aload_n 0, 1) := by decide +kernel
theorem dX1_payBack_14 : decode cX1_payBack 14 = .ok (.getfield 30, 3) := by decide +kernel
theorem dX1_payBack_17 : decode cX1_payBack 17 = .ok (.getfield 119, 3) := by decide +kernel
theorem dX1_payBack_20 : decode cX1_payBack 20 = .ok (.aload_n 0, 1) := by decide +kernel
theorem dX1_payBack_21 : decode cX1_payBack 21 = .ok (.getfield 44, 3) := by decide +kernel
theorem dX1_payBack_24 : decode cX1_payBack 24 = .ok (.getfield 122, 3) := by decide +kernel
theorem dX1_payBack_27 : decode cX1_payBack 27 = .ok (.iload_n 1, 1) := by decide +kernel
theorem dX1_payBack_28 : decode cX1_payBack 28 = .ok (.iaload, 1) := by decide +kernel
theorem dX1_payBack_29 : decode cX1_payBack 29 = .ok (.dup2, 1) := by decide +kernel
theorem dX1_payBack_30 : decode cX1_payBack 30 = .ok (.iaload, 1) := by decide +kernel
theorem dX1_payBack_31 : decode cX1_payBack 31 = .ok (.iload_n 2, 1) := by decide +kernel
theorem dX1_payBack_32 : decode cX1_payBack 32 = .ok (.isub, 1) := by decide +kernel
theorem dX1_payBack_33 : decode cX1_payBack 33 = .ok (.iastore, 1) := by decide +kernel
theorem dX1_payBack_34 : decode cX1_payBack 34 = .ok (.aload_n 0, 1) := by decide +kernel
theorem dX1_payBack_35 : decode cX1_payBack 35 = .ok (.getfield 30, 3) := by decide +kernel
theorem dX1_payBack_38 : decode cX1_payBack 38 = .ok (.getfield 119, 3) := by decide +kernel
theorem dX1_payBack_41 : decode cX1_payBack 41 = .ok (.aload_n 0, 1) := by decide +kernel
theorem dX1_payBack_42 : decode cX1_payBack 42 = .ok (.getfield 44, 3) := by decide +kernel
theorem dX1_payBack_45 : decode cX1_payBack 45 = .ok (.getfield 125, 3) := by decide +kernel
theorem dX1_payBack_48 : decode cX1_payBack 48 = .ok (.iload_n 1, 1) := by decide +kernel
theorem dX1_payBack_49 : decode cX1_payBack 49 = .ok (.iaload, 1) := by decide +kernel
theorem dX1_payBack_50 : decode cX1_payBack 50 = .ok (.dup2, 1) := by decide +kernel
theorem dX1_payBack_51 : decode cX1_payBack 51 = .ok (.iaload, 1) := by decide +kernel
theorem dX1_payBack_52 : decode cX1_payBack 52 = .ok (.iload_n 2, 1) := by decide +kernel
theorem dX1_payBack_53 : decode cX1_payBack 53 = .ok (.iadd, 1) := by decide +kernel
theorem dX1_payBack_54 : decode cX1_payBack 54 = .ok (.iastore, 1) := by decide +kernel
theorem dX1_payBack_55 : decode cX1_payBack 55 = .ok (.return_, 1) := by decide +kernel
theorem dX1_enterChange_0 : decode cX1_enterChange 0 = .ok (.aload_n 0, 1) := by decide +kernel
theorem dX1_enterChange_1 : decode cX1_enterChange 1 = .ok (.getfield 30, 3) := by decide +kernel
theorem dX1_enterChange_4 : decode cX1_enterChange 4 = .ok (.iload_n 1, 1) := by decide +kernel
theorem dX1_enterChange_5 : decode cX1_enterChange 5 = .ok (.invokevirtual 128, 3) := by decide +kernel
theorem dX1_enterChange_8 : decode cX1_enterChange 8 = .ok (.ifCond .ne 5, 3) := by decide +kernel
theorem dX1_enterChange_11 : decode cX1_enterChange 11 = .ok (.iconst (-1), 1) := by decide +kernel
theorem dX1_enterChange_12 : decode cX1_enterChange 12 = .ok (.ireturn, 1) := by decide +kernel
theorem dX1_enterChange_13 : decode cX1_enterChange 13 = .ok (.iload_n 2, 1) := by decide +kernel
theorem dX1_enterChange_14 : decode cX1_enterChange 14 = .ok (.invokestatic 132, 3) := by decide +kernel
theorem dX1_enterChange_17 : decode cX1_enterChange 17 = .ok (.ifCond .ne 6, 3) := by decide +kernel
theorem dX1_enterChange_20 : decode cX1_enterChange 20 = .ok (.bipush (-2), 2) := by decide +kernel
theorem dX1_enterChange_22 : decode cX1_enterChange 22 = .ok (.ireturn, 1) := by decide +kernel
theorem dX1_enterChange_23 : decode cX1_enterChange 23 = .ok (.aload_n 0, 1) := by decide +kernel
theorem dX1_enterChange_24 : decode cX1_enterChange 24 = .ok (.getfield 37, 3) := by decide +kernel
theorem dX1_enterChange_27 : decode cX1_enterChange 27 = .ok (.getfield 135, 3) := by decide +kernel
theorem dX1_enterChange_30 : decode cX1_enterChange 30 = .ok (.bipush 30, 2) := by decide +kernel
theorem dX1_enterChange_32 : decode cX1_enterChange 32 = .ok (.if_icmp .lt 6, 3) := by decide +kernel
theorem dX1_enterChange_35 : decode cX1_enterChange 35 = .ok (.bipush (-3), 2) := by decide +kernel
theorem dX1_enterChange_37 : decode cX1_enterChange 37 = .ok (.ireturn, 1) := by decide +kernel
theorem dX1_enterChange_38 : decode cX1_enterChange 38 = .ok (.aload_n 0, 1) := by decide +kernel
theorem dX1_enterChange_39 : decode cX1_enterChange 39 = .ok (.getfield 37, 3) := by decide +kernel
theorem dX1_enterChange_42 : decode cX1_enterChange 42 = .ok (.iload_n 1, 1) := by decide +kernel
theorem dX1_enterChange_43 : decode cX1_enterChange 43 = .ok (.iload_n 2, 1) := by decide +kernel
theorem dX1_enterChange_44 : decode cX1_enterChange 44 = .ok (.aload_n 0, 1) := by decide +kernel
theorem dX1_enterChange_45 : decode cX1_enterChange 45 = .ok (.getfield 48, 3) := by decide +kernel
theorem dX1_enterChange_48 : decode cX1_enterChange 48 = .ok (.invokevirtual 136, 3) := by decide +kernel
theorem dX1_enterChange_51 : decode cX1_enterChange 51 = .ok (.ireturn, 1) := by decide +kernel
theorem dX1_exemptChange_0 : decode cX1_exemptChange 0 = .ok (.aload_n 0, 1) := by decide +kernel
theorem dX1_exemptChange_1 : decode cX1_exemptChange 1 = .ok (.getfield 37, 3) := by decide +kernel
theorem dX1_exemptChange_4 : decode cX1_exemptChange 4 = .ok (.iload_n 1, 1) := by decide +kernel
theorem dX1_exemptChange_5 : decode cX1_exemptChange 5 = .ok (.invokevirtual 138, 3) := by decide +kernel
theorem dX1_exemptChange_8 : decode cX1_exemptChange 8 = .ok (.ifCond .ne 5, 3) := by decide +kernel
theorem dX1_exemptChange_11 : decode cX1_exemptChange 11 = .ok (.iconst (-1), 1) := by decide +kernel
theorem dX1_exemptChange_12 : decode cX1_exemptChange 12 = .ok (.ireturn, 1) := by decide +kernel
theorem dX1_exemptChange_13 : decode cX1_exemptChange 13 = .ok (.aload_n 0, 1) := by decide +kernel
theorem dX1_exemptChange_14 : decode cX1_exemptChange 14 = .ok (.iload_n 1, 1) := by decide +kernel
theorem dX1_exemptChange_15 : decode cX1_exemptChange 15 = .ok (.invokevirtual 139, 3) := by decide +kernel
theorem dX1_exemptChange_18 : decode cX1_exemptChange 18 = .ok (.ifCond .eq 6, 3) := by decide +kernel
theorem dX1_exemptChange_21 : decode cX1_exemptChange 21 = .ok (.bipush (-3), 2) := by decide +kernel
theorem dX1_exemptChange_23 : decode cX1_exemptChange 23 = .ok (.ireturn, 1) := by decide +kernel
theorem dX1_exemptChange_24 : decode cX1_exemptChange 24 = .ok (.aload_n 0, 1) := by decide +kernel
theorem dX1_exemptChange_25 : decode cX1_exemptChange 25 = .ok (.aload_n 0, 1) := by decide +kernel
theorem dX1_exemptChange_26 : decode cX1_exemptChange 26 = .ok (.getfield 37, 3) := by decide +kernel
theorem dX1_exemptChange_29 : decode cX1_exemptChange 29 = .ok (.getfield 142, 3) := by decide +kernel
theorem dX1_exemptChange_32 : decode cX1_exemptChange 32 = .ok (.iload_n 1, 1) := by decide +kernel
theorem dX1_exemptChange_33 : decode cX1_exemptChange 33 = .ok (.iaload, 1) := by decide +kernel
theorem dX1_exemptChange_34 : decode cX1_exemptChange 34 = .ok (.invokevirtual 145, 3) := by decide +kernel
theorem dX1_exemptChange_37 : decode cX1_exemptChange 37 = .ok (.istore_n 2, 1) := by decide +kernel
theorem dX1_exemptChange_38 : decode cX1_exemptChange 38 = .ok (.aload_n 0, 1) := by decide +kernel
theorem dX1_exemptChange_39 : decode cX1_exemptChange 39 = .ok (.getfield 30, 3) := by decide +kernel
theorem dX1_exemptChange_42 : decode cX1_exemptChange 42 = .ok (.getfield 119, 3) := by decide +kernel
theorem dX1_exemptChange_45 : decode cX1_exemptChange 45 = .ok (.aload_n 0, 1) := by decide +kernel
theorem dX1_exemptChange_46 : decode cX1_exemptChange 46 = .ok (.getfield 37, 3) := by decide +kernel
theorem dX1_exemptChange_49 : decode cX1_exemptChange 49 = .ok (.getfield 148, 3) := by decide +kernel
theorem dX1_exemptChange_52 : decode cX1_exemptChange 52 = .ok (.iload_n 1, 1) := by decide +kernel
theorem dX1_exemptChange_53 : decode cX1_exemptChange 53 = .ok (.iaload, 1) := by decide +kernel
theorem dX1_exemptChange_54 : decode cX1_exemptChange 54 = .ok (.dup2, 1) := by decide +kernel
theorem dX1_exemptChange_55 : decode cX1_exemptChange 55 = .ok (.iaload, 1) := by decide +kernel
theorem dX1_exemptChange_56 : decode cX1_exemptChange 56 = .ok (.iload_n 2, 1) := by decide +kernel
theorem dX1_exemptChange_57 : decode cX1_exemptChange 57 = .ok (.isub, 1) := by decide +kernel
theorem dX1_exemptChange_58 : decode cX1_exemptChange 58 = .ok (.iastore, 1) := by decide +kernel
theorem dX1_exemptChange_59 : decode cX1_exemptChange 59 = .ok (.aload_n 0, 1) := by decide +kernel
theorem dX1_exemptChange_60 : decode cX1_exemptChange 60 = .ok (.getfield 37, 3) := by decide +kernel
theorem dX1_exemptChange_63 : decode cX1_exemptChange 63 = .ok (.getfield 151, 3) := by decide +kernel
theorem dX1_exemptChange_66 : decode cX1_exemptChange 66 = .ok (.iload_n 1, 1) := by decide +kernel
theorem dX1_exemptChange_67 : decode cX1_exemptChange 67 = .ok (.iload_n 2, 1) := by decide +kernel
theorem dX1_exemptChange_68 : decode cX1_exemptChange 68 = .ok (.iastore, 1) := by decide +kernel
theorem dX1_exemptChange_69 : decode cX1_exemptChange 69 = .ok (.aload_n 0, 1) := by decide +kernel
theorem dX1_exemptChange_70 : decode cX1_exemptChange 70 = .ok (.getfield 37, 3) := by decide +kernel
theorem dX1_exemptChange_73 : decode cX1_exemptChange 73 = .ok (.getfield 154, 3) := by decide +kernel
theorem dX1_exemptChange_76 : decode cX1_exemptChange 76 = .ok (.iload_n 1, 1) := by decide +kernel
theorem dX1_exemptChange_77 : decode cX1_exemptChange 77 = .ok (.iconst 1, 1) := by decide +kernel
theorem dX1_exemptChange_78 : decode cX1_exemptChange 78 = .ok (.iastore, 1) := by decide +kernel
theorem dX1_exemptChange_79 : decode cX1_exemptChange 79 = .ok (.iload_n 2, 1) := by decide +kernel
theorem dX1_exemptChange_80 : decode cX1_exemptChange 80 = .ok (.ireturn, 1) := by decide +kernel
theorem dX1_makeChange_0 : decode cX1_makeChange 0 = .ok (.aload_n 0, 1) := by decide +kernel
theorem dX1_makeChange_1 : decode cX1_makeChange 1 = .ok (.getfield 37, 3) := by decide +kernel
theorem dX1_makeChange_4 : decode cX1_makeChange 4 = .ok (.iload_n 1, 1) := by decide +kernel
theorem dX1_makeChange_5 : decode cX1_makeChange 5 = .ok (.invokevirtual 138, 3) := by decide +kernel
theorem dX1_makeChange_8 : decode cX1_makeChange 8 = .ok (.ifCond .ne 5, 3) := by decide +kernel
theorem dX1_makeChange_11 : decode cX1_makeChange 11 = .ok (.iconst (-1), 1) := by decide +kernel
theorem dX1_makeChange_12 : decode cX1_makeChange 12 = .ok (.ireturn, 1) := by decide +kernel
theorem dX1_makeChange_13 : decode cX1_makeChange 13 = .ok (.aload_n 0, 1) := by decide +kernel
theorem dX1_makeChange_14 : decode cX1_makeChange 14 = .ok (.getfield 37, 3) := by decide +kernel
theorem dX1_makeChange_17 : decode cX1_makeChange 17 = .ok (.getfield 154, 3) := by decide +kernel
theorem dX1_makeChange_20 : decode cX1_makeChange 20 = .ok (.iload_n 1, 1) := by decide +kernel
theorem dX1_makeChange_21 : decode cX1_makeChange 21 = .ok (.iaload, 1) := by decide +kernel
theorem dX1_makeChange_22 : decode cX1_makeChange 22 = .ok (.iconst 1, 1) := by decide +kernel
theorem dX1_makeChange_23 : decode cX1_makeChange 23 = .ok (.if_icmp .ne 7, 3) := by decide +kernel
theorem dX1_makeChange_26 : decode cX1_makeChange 26 = .ok (.iconst 1, 1) := by decide +kernel
theorem dX1_makeChange_27 : decode cX1_makeChange 27 = .ok (.goto 4, 3) := by decide +kernel
theorem dX1_makeChange_30 : decode cX1_makeChange 30 = .ok (.iconst 0, 1) := by decide +kernel
theorem dX1_makeChange_31 : decode cX1_makeChange 31 = .ok (.istore_n 3, 1) := by decide +kernel
theorem dX1_makeChange_32 : decode cX1_makeChange 32 = .ok (.aload_n 0, 1) := by decide +kernel
theorem dX1_makeChange_33 : decode cX1_makeChange 33 = .ok (.getfield 37, 3) := by decide +kernel
theorem dX1_makeChange_36 : decode cX1_makeChange 36 = .ok (.iload_n 1, 1) := by decide +kernel
theorem dX1_makeChange_37 : decode cX1_makeChange 37 = .ok (.invokevirtual 157, 3) := by decide +kernel
theorem dX1_makeChange_40 : decode cX1_makeChange 40 = .ok (.ifCond .eq 19, 3) := by decide +kernel
theorem dX1_makeChange_43 : decode cX1_makeChange 43 = .ok (.iload_n 3, 1) := by decide +kernel
theorem dX1_makeChange_44 : decode cX1_makeChange 44 = .ok (.ifCond .ne 18, 3) := by decide +kernel
theorem dX1_makeChange_47 : decode cX1_makeChange 47 = .ok (.aload_n 0, 1) := by decide +kernel
theorem dX1_makeChange_48 : decode cX1_makeChange 48 = .ok (.getfield 23, 3) := by decide +kernel
theorem dX1_makeChange_51 : decode cX1_makeChange 51 = .ok (.aload_n 0, 1) := by decide +kernel
theorem dX1_makeChange_52 : decode cX1_makeChange 52 = .ok (.getfield 48, 3) := by decide +kernel
theorem dX1_makeChange_55 : decode cX1_makeChange 55 = .ok (.baload, 1) := by decide +kernel
theorem dX1_makeChange_56 : decode cX1_makeChange 56 = .ok (.ifCond .eq 6, 3) := by decide +kernel
theorem dX1_makeChange_59 : decode cX1_makeChange 59 = .ok (.bipush (-3), 2) := by decide +kernel
theorem dX1_makeChange_61 : decode cX1_makeChange 61 = .ok (.ireturn, 1) := by decide +kernel
theorem dX1_makeChange_62 : decode cX1_makeChange 62 = .ok (.aload_n 0, 1) := by decide +kernel
theorem dX1_makeChange_63 : decode cX1_makeChange 63 = .ok (.getfield 37, 3) := by decide +kernel
theorem dX1_makeChange_66 : decode cX1_makeChange 66 = .ok (.getfield 160, 3) := by decide +kernel
theorem dX1_makeChange_69 : decode cX1_makeChange 69 = .ok (.iload_n 1, 1) := by decide +kernel
theorem dX1_makeChange_70 : decode cX1_makeChange 70 = .ok (.aload_n 0, 1) := by decide +kernel
theorem dX1_makeChange_71 : decode cX1_makeChange 71 = .ok (.getfield 48, 3) := by decide +kernel
theorem dX1_makeChange_74 : decode cX1_makeChange 74 = .ok (.iastore, 1) := by decide +kernel
theorem dX1_makeChange_75 : decode cX1_makeChange 75 = .ok (.aload_n 0, 1) := by decide +kernel
theorem dX1_makeChange_76 : decode cX1_makeChange 76 = .ok (.getfield 37, 3) := by decide +kernel
theorem dX1_makeChange_79 : decode cX1_makeChange 79 = .ok (.getfield 163, 3) := by decide +kernel
theorem dX1_makeChange_82 : decode cX1_makeChange 82 = .ok (.iload_n 1, 1) := by decide +kernel
theorem dX1_makeChange_83 : decode cX1_makeChange 83 = .ok (.iload_n 3, 1) := by decide +kernel
theorem dX1_makeChange_84 : decode cX1_makeChange 84 = .ok (.invokestatic 166, 3) := by decide +kernel
theorem dX1_makeChange_87 : decode cX1_makeChange 87 = .ok (.iastore, 1) := by decide +kernel
theorem dX1_makeChange_88 : decode cX1_makeChange 88 = .ok (.aload_n 0, 1) := by decide +kernel
theorem dX1_makeChange_89 : decode cX1_makeChange 89 = .ok (.getfield 37, 3) := by decide +kernel
theorem dX1_makeChange_92 : decode cX1_makeChange 92 = .ok (.iload_n 1, 1) := by decide +kernel
theorem dX1_makeChange_93 : decode cX1_makeChange 93 = .ok (.iload_n 2, 1) := by decide +kernel
theorem dX1_makeChange_94 : decode cX1_makeChange 94 = .ok (.ifCond .eq 7, 3) := by decide +kernel
theorem dX1_makeChange_97 : decode cX1_makeChange 97 = .ok (.iconst 3, 1) := by decide +kernel
theorem dX1_makeChange_98 : decode cX1_makeChange 98 = .ok (.goto 4, 3) := by decide +kernel
theorem dX1_makeChange_101 : decode cX1_makeChange 101 = .ok (.iconst 2, 1) := by decide +kernel
theorem dX1_makeChange_102 : decode cX1_makeChange 102 = .ok (.invokevirtual 170, 3) := by decide +kernel
theorem dX1_makeChange_105 : decode cX1_makeChange 105 = .ok (.istore 4, 2) := by decide +kernel
theorem dX1_makeChange_107 : decode cX1_makeChange 107 = .ok (.aload_n 0, 1) := by decide +kernel
theorem dX1_makeChange_108 : decode cX1_makeChange 108 = .ok (.getfield 37, 3) := by decide +kernel
theorem dX1_makeChange_111 : decode cX1_makeChange 111 = .ok (.getfield 148, 3) := by decide +kernel
theorem dX1_makeChange_114 : decode cX1_makeChange 114 = .ok (.iload_n 1, 1) := by decide +kernel
theorem dX1_makeChange_115 : decode cX1_makeChange 115 = .ok (.iaload, 1) := by decide +kernel
theorem dX1_makeChange_116 : decode cX1_makeChange 116 = .ok (.istore 5, 2) := by decide +kernel
theorem dX1_makeChange_118 : decode cX1_makeChange 118 = .ok (.iload_n 2, 1) := by decide +kernel
theorem dX1_makeChange_119 : decode cX1_makeChange 119 = .ok (.ifCond .ne 20, 3) := by decide +kernel
theorem dX1_makeChange_122 : decode cX1_makeChange 122 = .ok (.aload_n 0, 1) := by decide +kernel
theorem dX1_makeChange_123 : decode cX1_makeChange 123 = .ok (.getfield 30, 3) := by decide +kernel
theorem dX1_makeChange_126 : decode cX1_makeChange 126 = .ok (.getfield 119, 3) := by decide +kernel
theorem dX1_makeChange_129 : decode cX1_makeChange 129 = .ok (.iload 5, 2) := by decide +kernel
theorem dX1_makeChange_131 : decode cX1_makeChange 131 = .ok (.dup2, 1) := by decide +kernel
theorem dX1_makeChange_132 : decode cX1_makeChange 132 = .ok (.iaload, 1) := by decide +kernel
theorem dX1_makeChange_133 : decode cX1_makeChange 133 = .ok (.iload 4, 2) := by decide +kernel
theorem dX1_makeChange_135 : decode cX1_makeChange 135 = .ok (.iadd, 1) := by decide +kernel
theorem dX1_makeChange_136 : decode cX1_makeChange 136 = .ok (.iastore, 1) := by decide +kernel
theorem dX1_makeChange_137 : decode cX1_makeChange 137 = .ok (.iconst 0, 1) := by decide +kernel
theorem dX1_makeChange_138 : decode cX1_makeChange 138 = .ok (.ireturn, 1) := by decide +kernel
theorem dX1_makeChange_139 : decode cX1_makeChange 139 = .ok (.aload_n 0, 1) := by decide +kernel
theorem dX1_makeChange_140 : decode cX1_makeChange 140 = .ok (.getfield 18, 3) := by decide +kernel
theorem dX1_makeChange_143 : decode cX1_makeChange 143 = .ok (.iconst 2, 1) := by decide +kernel
theorem dX1_makeChange_144 : decode cX1_makeChange 144 = .ok (.iaload, 1) := by decide +kernel
theorem dX1_makeChange_145 : decode cX1_makeChange 145 = .ok (.aload_n 0, 1) := by decide +kernel
theorem dX1_makeChange_146 : decode cX1_makeChange 146 = .ok (.getfield 37, 3) := by decide +kernel
theorem dX1_makeChange_149 : decode cX1_makeChange 149 = .ok (.getfield 142, 3) := by decide +kernel
theorem dX1_makeChange_152 : decode cX1_makeChange 152 = .ok (.iload_n 1, 1) := by decide +kernel
theorem dX1_makeChange_153 : decode cX1_makeChange 153 = .ok (.iaload, 1) := by decide +kernel
theorem dX1_makeChange_154 : decode cX1_makeChange 154 = .ok (.imul, 1) := by decide +kernel
theorem dX1_makeChange_155 : decode cX1_makeChange 155 = .ok (.aload_n 0, 1) := by decide +kernel
theorem dX1_makeChange_156 : decode cX1_makeChange 156 = .ok (.getfield 30, 3) := by decide +kernel
theorem dX1_makeChange_159 : decode cX1_makeChange 159 = .ok (.getfield 119, 3) := by decide +kernel
theorem dX1_makeChange_162 : decode cX1_makeChange 162 = .ok (.iload 5, 2) := by decide +kernel
theorem dX1_makeChange_164 : decode cX1_makeChange 164 = .ok (.iaload, 1) := by decide +kernel
theorem dX1_makeChange_165 : decode cX1_makeChange 165 = .ok (.invokestatic 109, 3) := by decide +kernel
theorem dX1_makeChange_168 : decode cX1_makeChange 168 = .ok (.istore 6, 2) := by decide +kernel
theorem dX1_makeChange_170 : decode cX1_makeChange 170 = .ok (.aload_n 0, 1) := by decide +kernel
theorem dX1_makeChange_171 : decode cX1_makeChange 171 = .ok (.getfield 30, 3) := by decide +kernel
theorem dX1_makeChange_174 : decode cX1_makeChange 174 = .ok (.getfield 119, 3) := by decide +kernel
theorem dX1_makeChange_177 : decode cX1_makeChange 177 = .ok (.iload 5, 2) := by decide +kernel
theorem dX1_makeChange_179 : decode cX1_makeChange 179 = .ok (.dup2, 1) := by decide +kernel
theorem dX1_makeChange_180 : decode cX1_makeChange 180 = .ok (.iaload, 1) := by decide +kernel
theorem dX1_makeChange_181 : decode cX1_makeChange 181 = .ok (.iload 6, 2) := by decide +kernel
theorem dX1_makeChange_183 : decode cX1_makeChange 183 = .ok (.isub, 1) := by decide +kernel
theorem dX1_makeChange_184 : decode cX1_makeChange 184 = .ok (.iastore, 1) := by decide +kernel
theorem dX1_makeChange_185 : decode cX1_makeChange 185 = .ok (.aload_n 0, 1) := by decide +kernel
theorem dX1_makeChange_186 : decode cX1_makeChange 186 = .ok (.getfield 30, 3) := by decide +kernel
theorem dX1_makeChange_189 : decode cX1_makeChange 189 = .ok (.getfield 173, 3) := by decide +kernel
theorem dX1_makeChange_192 : decode cX1_makeChange 192 = .ok (.iload 5, 2) := by decide +kernel
theorem dX1_makeChange_194 : decode cX1_makeChange 194 = .ok (.dup2, 1) := by decide +kernel
theorem dX1_makeChange_195 : decode cX1_makeChange 195 = .ok (.iaload, 1) := by decide +kernel
theorem dX1_makeChange_196 : decode cX1_makeChange 196 = .ok (.iload 4, 2) := by decide +kernel
theorem dX1_makeChange_198 : decode cX1_makeChange 198 = .ok (.iload 6, 2) := by decide +kernel
theorem dX1_makeChange_200 : decode cX1_makeChange 200 = .ok (.iadd, 1) := by decide +kernel
theorem dX1_makeChange_201 : decode cX1_makeChange 201 = .ok (.iadd, 1) := by decide +kernel
theorem dX1_makeChange_202 : decode cX1_makeChange 202 = .ok (.iastore, 1) := by decide +kernel
theorem dX1_makeChange_203 : decode cX1_makeChange 203 = .ok (.iload 4, 2) := by decide +kernel
theorem dX1_makeChange_205 : decode cX1_makeChange 205 = .ok (.iload 6, 2) := by decide +kernel
theorem dX1_makeChange_207 : decode cX1_makeChange 207 = .ok (.iadd, 1) := by decide +kernel
theorem dX1_makeChange_208 : decode cX1_makeChange 208 = .ok (.ireturn, 1) := by decide +kernel
theorem dX1_dropChange_0 : decode cX1_dropChange 0 = .ok (.aload_n 0, 1) := by decide +kernel
theorem dX1_dropChange_1 : decode cX1_dropChange 1 = .ok (.getfield 37, 3) := by decide +kernel
theorem dX1_dropChange_4 : decode cX1_dropChange 4 = .ok (.iload_n 1, 1) := by decide +kernel
theorem dX1_dropChange_5 : decode cX1_dropChange 5 = .ok (.invokevirtual 138, 3) := by decide +kernel
theorem dX1_dropChange_8 : decode cX1_dropChange 8 = .ok (.ifCond .ne 5, 3) := by decide +kernel
theorem dX1_dropChange_11 : decode cX1_dropChange 11 = .ok (.iconst (-1), 1) := by decide +kernel
theorem dX1_dropChange_12 : decode cX1_dropChange 12 = .ok (.ireturn, 1) := by decide +kernel
theorem dX1_dropChange_13 : decode cX1_dropChange 13 = .ok (.aload_n 0, 1) := by decide +kernel
theorem dX1_dropChange_14 : decode cX1_dropChange 14 = .ok (.getfield 37, 3) := by decide +kernel
theorem dX1_dropChange_17 : decode cX1_dropChange 17 = .ok (.iload_n 1, 1) := by decide +kernel
theorem dX1_dropChange_18 : decode cX1_dropChange 18 = .ok (.invokevirtual 157, 3) := by decide +kernel
theorem dX1_dropChange_21 : decode cX1_dropChange 21 = .ok (.ifCond .ne 6, 3) := by decide +kernel
theorem dX1_dropChange_24 : decode cX1_dropChange 24 = .ok (.bipush (-3), 2) := by decide +kernel
theorem dX1_dropChange_26 : decode cX1_dropChange 26 = .ok (.ireturn, 1) := by decide +kernel
theorem dX1_dropChange_27 : decode cX1_dropChange 27 = .ok (.aload_n 0, 1) := by decide +kernel
theorem dX1_dropChange_28 : decode cX1_dropChange 28 = .ok (.getfield 37, 3) := by decide +kernel
theorem dX1_dropChange_31 : decode cX1_dropChange 31 = .ok (.iload_n 1, 1) := by decide +kernel
theorem dX1_dropChange_32 : decode cX1_dropChange 32 = .ok (.iconst 4, 1) := by decide +kernel
theorem dX1_dropChange_33 : decode cX1_dropChange 33 = .ok (.invokevirtual 170, 3) := by decide +kernel
theorem dX1_dropChange_36 : decode cX1_dropChange 36 = .ok (.istore_n 2, 1) := by decide +kernel
theorem dX1_dropChange_37 : decode cX1_dropChange 37 = .ok (.aload_n 0, 1) := by decide +kernel
theorem dX1_dropChange_38 : decode cX1_dropChange 38 = .ok (.getfield 30, 3) := by decide +kernel
theorem dX1_dropChange_41 : decode cX1_dropChange 41 = .ok (.getfield 119, 3) := by decide +kernel
theorem dX1_dropChange_44 : decode cX1_dropChange 44 = .ok (.aload_n 0, 1) := by decide +kernel
theorem dX1_dropChange_45 : decode cX1_dropChange 45 = .ok (.getfield 37, 3) := by decide +kernel
theorem dX1_dropChange_48 : decode cX1_dropChange 48 = .ok (.getfield 148, 3) := by decide +kernel
theorem dX1_dropChange_51 : decode cX1_dropChange 51 = .ok (.iload_n 1, 1) := by decide +kernel
theorem dX1_dropChange_52 : decode cX1_dropChange 52 = .ok (.iaload, 1) := by decide +kernel
theorem dX1_dropChange_53 : decode cX1_dropChange 53 = .ok (.dup2, 1) := by decide +kernel
theorem dX1_dropChange_54 : decode cX1_dropChange 54 = .ok (.iaload, 1) := by decide +kernel
theorem dX1_dropChange_55 : decode cX1_dropChange 55 = .ok (.iload_n 2, 1) := by decide +kernel
theorem dX1_dropChange_56 : decode cX1_dropChange 56 = .ok (.iadd, 1) := by decide +kernel
theorem dX1_dropChange_57 : decode cX1_dropChange 57 = .ok (.iastore, 1) := by decide +kernel
theorem dX1_dropChange_58 : decode cX1_dropChange 58 = .ok (.iload_n 2, 1) := by decide +kernel
theorem dX1_dropChange_59 : decode cX1_dropChange 59 = .ok (.ireturn, 1) := by decide +kernel
theorem dX1_lendCredits_0 : decode cX1_lendCredits 0 = .ok (.aload_n 0, 1) := by decide +kernel
theorem dX1_lendCredits_1 : decode cX1_lendCredits 1 = .ok (.getfield 30, 3) := by decide +kernel
theorem dX1_lendCredits_4 : decode cX1_lendCredits 4 = .ok (.iload_n 1, 1) := by decide +kernel
theorem dX1_lendCredits_5 : decode cX1_lendCredits 5 = .ok (.invokevirtual 128, 3) := by decide +kernel
theorem dX1_lendCredits_8 : decode cX1_lendCredits 8 = .ok (.ifCond .eq 14, 3) := by decide +kernel
theorem dX1_lendCredits_11 : decode cX1_lendCredits 11 = .ok (.aload_n 0, 1) := by decide +kernel
theorem dX1_lendCredits_12 : decode cX1_lendCredits 12 = .ok (.getfield 30, 3) := by decide +kernel
theorem dX1_lendCredits_15 : decode cX1_lendCredits 15 = .ok (.iload_n 2, 1) := by decide +kernel
theorem dX1_lendCredits_16 : decode cX1_lendCredits 16 = .ok (.invokevirtual 128, 3) := by decide +kernel
theorem dX1_lendCredits_19 : decode cX1_lendCredits 19 = .ok (.ifCond .ne 5, 3) := by decide +kernel
theorem dX1_lendCredits_22 : decode cX1_lendCredits 22 = .ok (.iconst (-1), 1) := by decide +kernel
theorem dX1_lendCredits_23 : decode cX1_lendCredits 23 = .ok (.ireturn, 1) := by decide +kernel
theorem dX1_lendCredits_24 : decode cX1_lendCredits 24 = .ok (.iload_n 1, 1) := by decide +kernel
theorem dX1_lendCredits_25 : decode cX1_lendCredits 25 = .ok (.iload_n 2, 1) := by decide +kernel
theorem dX1_lendCredits_26 : decode cX1_lendCredits 26 = .ok (.if_icmp .eq 27, 3) := by decide +kernel
theorem dX1_lendCredits_29 : decode cX1_lendCredits 29 = .ok (.iload_n 3, 1) := by decide +kernel
theorem dX1_lendCredits_30 : decode cX1_lendCredits 30 = .ok (.iconst 1, 1) := by decide +kernel
theorem dX1_lendCredits_31 : decode cX1_lendCredits 31 = .ok (.if_icmp .lt 22, 3) := by decide +kernel
theorem dX1_lendCredits_34 : decode cX1_lendCredits 34 = .ok (.iload_n 3, 1) := by decide +kernel
theorem dX1_lendCredits_35 : decode cX1_lendCredits 35 = .ok (.sipush 500, 3) := by decide +kernel
theorem dX1_lendCredits_38 : decode cX1_lendCredits 38 = .ok (.if_icmp .gt 15, 3) := by decide +kernel
theorem dX1_lendCredits_41 : decode cX1_lendCredits 41 = .ok (.iload 4, 2) := by decide +kernel
theorem dX1_lendCredits_43 : decode cX1_lendCredits 43 = .ok (.ifCond .lt 10, 3) := by decide +kernel
theorem dX1_lendCredits_46 : decode cX1_lendCredits 46 = .ok (.iload 4, 2) := by decide +kernel
theorem dX1_lendCredits_48 : decode cX1_lendCredits 48 = .ok (.bipush 39, 2) := by decide +kernel
theorem dX1_lendCredits_50 : decode cX1_lendCredits 50 = .ok (.if_icmp .le 6, 3) := by decide +kernel
theorem dX1_lendCredits_53 : decode cX1_lendCredits 53 = .ok (.bipush (-2), 2) := by decide +kernel
theorem dX1_lendCredits_55 : decode cX1_lendCredits 55 = .ok (.ireturn, 1) := by decide +kernel
theorem dX1_lendCredits_56 : decode cX1_lendCredits 56 = .ok (.iload 4, 2) := by decide +kernel
theorem dX1_lendCredits_58 : decode cX1_lendCredits 58 = .ok (.aload_n 0, 1) := by decide +kernel
theorem dX1_lendCredits_59 : decode cX1_lendCredits 59 = .ok (.getfield 48, 3) := by decide +kernel
theorem dX1_lendCredits_62 : decode cX1_lendCredits 62 = .ok (.if_icmp .lt 36, 3) := by decide +kernel
theorem dX1_lendCredits_65 : decode cX1_lendCredits 65 = .ok (.aload_n 0, 1) := by decide +kernel
theorem dX1_lendCredits_66 : decode cX1_lendCredits 66 = .ok (.getfield 44, 3) := by decide +kernel
theorem dX1_lendCredits_69 : decode cX1_lendCredits 69 = .ok (.getfield 99, 3) := by decide +kernel
theorem dX1_lendCredits_72 : decode cX1_lendCredits 72 = .ok (.bipush 12, 2) := by decide +kernel
theorem dX1_lendCredits_74 : decode cX1_lendCredits 74 = .ok (.if_icmp .ge 24, 3) := by decide +kernel
theorem dX1_lendCredits_77 : decode cX1_lendCredits 77 = .ok (.aload_n 0, 1) := by decide +kernel
theorem dX1_lendCredits_78 : decode cX1_lendCredits 78 = .ok (.getfield 30, 3) := by decide +kernel
theorem dX1_lendCredits_81 : decode cX1_lendCredits 81 = .ok (.getfield 119, 3) := by decide +kernel
theorem dX1_lendCredits_84 : decode cX1_lendCredits 84 = .ok (.iload_n 1, 1) := by decide +kernel
theorem dX1_lendCredits_85 : decode cX1_lendCredits 85 = .ok (.iaload, 1) := by decide +kernel
theorem dX1_lendCredits_86 : decode cX1_lendCredits 86 = .ok (.iload_n 3, 1) := by decide +kernel
theorem dX1_lendCredits_87 : decode cX1_lendCredits 87 = .ok (.if_icmp .lt 11, 3) := by decide +kernel
theorem dX1_lendCredits_90 : decode cX1_lendCredits 90 = .ok (.aload_n 0, 1) := by decide +kernel
theorem dX1_lendCredits_91 : decode cX1_lendCredits 91 = .ok (.iload_n 2, 1) := by decide +kernel
theorem dX1_lendCredits_92 : decode cX1_lendCredits 92 = .ok (.invokevirtual 176, 3) := by decide +kernel
theorem dX1_lendCredits_95 : decode cX1_lendCredits 95 = .ok (.ifCond .eq 6, 3) := by decide +kernel
theorem dX1_lendCredits_98 : decode cX1_lendCredits 98 = .ok (.bipush (-3), 2) := by decide +kernel
theorem dX1_lendCredits_100 : decode cX1_lendCredits 100 = .ok (.ireturn, 1) := by decide +kernel
theorem dX1_lendCredits_101 : decode cX1_lendCredits 101 = .ok (.aload_n 0, 1) := by decide +kernel
theorem dX1_lendCredits_102 : decode cX1_lendCredits 102 = .ok (.getfield 30, 3) := by decide +kernel
theorem dX1_lendCredits_105 : decode cX1_lendCredits 105 = .ok (.getfield 119, 3) := by decide +kernel
theorem dX1_lendCredits_108 : decode cX1_lendCredits 108 = .ok (.iload_n 1, 1) := by decide +kernel
theorem dX1_lendCredits_109 : decode cX1_lendCredits 109 = .ok (.dup2, 1) := by decide +kernel
theorem dX1_lendCredits_110 : decode cX1_lendCredits 110 = .ok (.iaload, 1) := by decide +kernel
theorem dX1_lendCredits_111 : decode cX1_lendCredits 111 = .ok (.iload_n 3, 1) := by decide +kernel
theorem dX1_lendCredits_112 : decode cX1_lendCredits 112 = .ok (.isub, 1) := by decide +kernel
theorem dX1_lendCredits_113 : decode cX1_lendCredits 113 = .ok (.iastore, 1) := by decide +kernel
theorem dX1_lendCredits_114 : decode cX1_lendCredits 114 = .ok (.aload_n 0, 1) := by decide +kernel
theorem dX1_lendCredits_115 : decode cX1_lendCredits 115 = .ok (.getfield 30, 3) := by decide +kernel
theorem dX1_lendCredits_118 : decode cX1_lendCredits 118 = .ok (.getfield 119, 3) := by decide +kernel
theorem dX1_lendCredits_121 : decode cX1_lendCredits 121 = .ok (.iload_n 2, 1) := by decide +kernel
theorem dX1_lendCredits_122 : decode cX1_lendCredits 122 = .ok (.dup2, 1) := by decide +kernel
theorem dX1_lendCredits_123 : decode cX1_lendCredits 123 = .ok (.iaload, 1) := by decide +kernel
theorem dX1_lendCredits_124 : decode cX1_lendCredits 124 = .ok (.iload_n 3, 1) := by decide +kernel
theorem dX1_lendCredits_125 : decode cX1_lendCredits 125 = .ok (.iadd, 1) := by decide +kernel
theorem dX1_lendCredits_126 : decode cX1_lendCredits 126 = .ok (.iastore, 1) := by decide +kernel
theorem dX1_lendCredits_127 : decode cX1_lendCredits 127 = .ok (.aload_n 0, 1) := by decide +kernel
theorem dX1_lendCredits_128 : decode cX1_lendCredits 128 = .ok (.getfield 44, 3) := by decide +kernel
theorem dX1_lendCredits_131 : decode cX1_lendCredits 131 = .ok (.iload_n 1, 1) := by decide +kernel
theorem dX1_lendCredits_132 : decode cX1_lendCredits 132 = .ok (.iload_n 2, 1) := by decide +kernel
theorem dX1_lendCredits_133 : decode cX1_lendCredits 133 = .ok (.iload_n 3, 1) := by decide +kernel
theorem dX1_lendCredits_134 : decode cX1_lendCredits 134 = .ok (.iload 4, 2) := by decide +kernel
theorem dX1_lendCredits_136 : decode cX1_lendCredits 136 = .ok (.aload_n 0, 1) := by decide +kernel
theorem dX1_lendCredits_137 : decode cX1_lendCredits 137 = .ok (.getfield 48, 3) := by decide +kernel
theorem dX1_lendCredits_140 : decode cX1_lendCredits 140 = .ok (.invokevirtual 179, 3) := by decide +kernel
theorem dX1_lendCredits_143 : decode cX1_lendCredits 143 = .ok (.ireturn, 1) := by decide +kernel
theorem dX1_repayLoan_0 : decode cX1_repayLoan 0 = .ok (.aload_n 0, 1) := by decide +kernel
theorem dX1_repayLoan_1 : decode cX1_repayLoan 1 = .ok (.getfield 44, 3) := by decide +kernel
theorem dX1_repayLoan_4 : decode cX1_repayLoan 4 = .ok (.iload_n 1, 1) := by decide +kernel
theorem dX1_repayLoan_5 : decode cX1_repayLoan 5 = .ok (.invokevirtual 182, 3) := by decide +kernel
theorem dX1_repayLoan_8 : decode cX1_repayLoan 8 = .ok (.ifCond .ne 5, 3) := by decide +kernel
theorem dX1_repayLoan_11 : decode cX1_repayLoan 11 = .ok (.iconst (-1), 1) := by decide +kernel
theorem dX1_repayLoan_12 : decode cX1_repayLoan 12 = .ok (.ireturn, 1) := by decide +kernel
theorem dX1_repayLoan_13 : decode cX1_repayLoan 13 = .ok (.iload_n 2, 1) := by decide +kernel
theorem dX1_repayLoan_14 : decode cX1_repayLoan 14 = .ok (.iconst 1, 1) := by decide +kernel
theorem dX1_repayLoan_15 : decode cX1_repayLoan 15 = .ok (.if_icmp .lt 10, 3) := by decide +kernel
theorem dX1_repayLoan_18 : decode cX1_repayLoan 18 = .ok (.iload_n 2, 1) := by decide +kernel
theorem dX1_repayLoan_19 : decode cX1_repayLoan 19 = .ok (.sipush 500, 3) := by decide +kernel
theorem dX1_repayLoan_22 : decode cX1_repayLoan 22 = .ok (.if_icmp .le 6, 3) := by decide +kernel
theorem dX1_repayLoan_25 : decode cX1_repayLoan 25 = .ok (.bipush (-2), 2) := by decide +kernel
theorem dX1_repayLoan_27 : decode cX1_repayLoan 27 = .ok (.ireturn, 1) := by decide +kernel
theorem dX1_repayLoan_28 : decode cX1_repayLoan 28 = .ok (.aload_n 0, 1) := by decide +kernel
theorem dX1_repayLoan_29 : decode cX1_repayLoan 29 = .ok (.getfield 44, 3) := by decide +kernel
theorem dX1_repayLoan_32 : decode cX1_repayLoan 32 = .ok (.getfield 103, 3) := by decide +kernel
theorem dX1_repayLoan_35 : decode cX1_repayLoan 35 = .ok (.iload_n 1, 1) := by decide +kernel
theorem dX1_repayLoan_36 : decode cX1_repayLoan 36 = .ok (.iaload, 1) := by decide +kernel
theorem dX1_repayLoan_37 : decode cX1_repayLoan 37 = .ok (.iload_n 2, 1) := by decide +kernel
theorem dX1_repayLoan_38 : decode cX1_repayLoan 38 = .ok (.if_icmp .lt 12, 3) := by decide +kernel
theorem dX1_repayLoan_41 : decode cX1_repayLoan 41 = .ok (.aload_n 0, 1) := by decide +kernel
theorem dX1_repayLoan_42 : decode cX1_repayLoan 42 = .ok (.iload_n 1, 1) := by decide +kernel
theorem dX1_repayLoan_43 : decode cX1_repayLoan 43 = .ok (.invokevirtual 106, 3) := by decide +kernel
theorem dX1_repayLoan_46 : decode cX1_repayLoan 46 = .ok (.iload_n 2, 1) := by decide +kernel
theorem dX1_repayLoan_47 : decode cX1_repayLoan 47 = .ok (.if_icmp .ge 6, 3) := by decide +kernel
theorem dX1_repayLoan_50 : decode cX1_repayLoan 50 = .ok (.bipush (-3), 2) := by decide +kernel
theorem dX1_repayLoan_52 : decode cX1_repayLoan 52 = .ok (.ireturn, 1) := by decide +kernel
theorem dX1_repayLoan_53 : decode cX1_repayLoan 53 = .ok (.aload_n 0, 1) := by decide +kernel
theorem dX1_repayLoan_54 : decode cX1_repayLoan 54 = .ok (.iload_n 1, 1) := by decide +kernel
theorem dX1_repayLoan_55 : decode cX1_repayLoan 55 = .ok (.iload_n 2, 1) := by decide +kernel
theorem dX1_repayLoan_56 : decode cX1_repayLoan 56 = .ok (.invokevirtual 115, 3) := by decide +kernel
theorem dX1_repayLoan_59 : decode cX1_repayLoan 59 = .ok (.aload_n 0, 1) := by decide +kernel
theorem dX1_repayLoan_60 : decode cX1_repayLoan 60 = .ok (.getfield 44, 3) := by decide +kernel
theorem dX1_repayLoan_63 : decode cX1_repayLoan 63 = .ok (.getfield 103, 3) := by decide +kernel
theorem dX1_repayLoan_66 : decode cX1_repayLoan 66 = .ok (.iload_n 1, 1) := by decide +kernel
theorem dX1_repayLoan_67 : decode cX1_repayLoan 67 = .ok (.iaload, 1) := by decide +kernel
theorem dX1_repayLoan_68 : decode cX1_repayLoan 68 = .ok (.ireturn, 1) := by decide +kernel
theorem dX1_creditsOf_0 : decode cX1_creditsOf 0 = .ok (.iload_n 1, 1) := by decide +kernel
theorem dX1_creditsOf_1 : decode cX1_creditsOf 1 = .ok (.aload_n 0, 1) := by decide +kernel
theorem dX1_creditsOf_2 : decode cX1_creditsOf 2 = .ok (.getfield 18, 3) := by decide +kernel
theorem dX1_creditsOf_5 : decode cX1_creditsOf 5 = .ok (.iconst 0, 1) := by decide +kernel
theorem dX1_creditsOf_6 : decode cX1_creditsOf 6 = .ok (.iaload, 1) := by decide +kernel
theorem dX1_creditsOf_7 : decode cX1_creditsOf 7 = .ok (.imul, 1) := by decide +kernel
theorem dX1_creditsOf_8 : decode cX1_creditsOf 8 = .ok (.ireturn, 1) := by decide +kernel
theorem dX1_owes_0 : decode cX1_owes 0 = .ok (.aload_n 0, 1) := by decide +kernel
theorem dX1_owes_1 : decode cX1_owes 1 = .ok (.getfield 44, 3) := by decide +kernel
theorem dX1_owes_4 : decode cX1_owes 4 = .ok (.iload_n 1, 1) := by decide +kernel
theorem dX1_owes_5 : decode cX1_owes 5 = .ok (.aload_n 0, 1) := by decide +kernel
theorem dX1_owes_6 : decode cX1_owes 6 = .ok (.getfield 48, 3) := by decide +kernel
theorem dX1_owes_9 : decode cX1_owes 9 = .ok (.invokevirtual 183, 3) := by decide +kernel
theorem dX1_owes_12 : decode cX1_owes 12 = .ok (.ireturn, 1) := by decide +kernel
theorem dX1_reasonAgainst_0 : decode cX1_reasonAgainst 0 = .ok (.aload_n 0, 1) := by decide +kernel
theorem dX1_reasonAgainst_1 : decode cX1_reasonAgainst 1 = .ok (.getfield 37, 3) := by decide +kernel
theorem dX1_reasonAgainst_4 : decode cX1_reasonAgainst 4 = .ok (.getfield 154, 3) := by decide +kernel
theorem dX1_reasonAgainst_7 : decode cX1_reasonAgainst 7 = .ok (.iload_n 1, 1) := by decide +kernel
theorem dX1_reasonAgainst_8 : decode cX1_reasonAgainst 8 = .ok (.iaload, 1) := by decide +kernel
theorem dX1_reasonAgainst_9 : decode cX1_reasonAgainst 9 = .ok (.ifCond .eq 5, 3) := by decide +kernel
theorem dX1_reasonAgainst_12 : decode cX1_reasonAgainst 12 = .ok (.iconst 1, 1) := by decide +kernel
theorem dX1_reasonAgainst_13 : decode cX1_reasonAgainst 13 = .ok (.ireturn, 1) := by decide +kernel
theorem dX1_reasonAgainst_14 : decode cX1_reasonAgainst 14 = .ok (.aload_n 0, 1) := by decide +kernel
theorem dX1_reasonAgainst_15 : decode cX1_reasonAgainst 15 = .ok (.getfield 37, 3) := by decide +kernel
theorem dX1_reasonAgainst_18 : decode cX1_reasonAgainst 18 = .ok (.getfield 148, 3) := by decide +kernel
theorem dX1_reasonAgainst_21 : decode cX1_reasonAgainst 21 = .ok (.iload_n 1, 1) := by decide +kernel
theorem dX1_reasonAgainst_22 : decode cX1_reasonAgainst 22 = .ok (.iaload, 1) := by decide +kernel
theorem dX1_reasonAgainst_23 : decode cX1_reasonAgainst 23 = .ok (.istore_n 2, 1) := by decide +kernel
theorem dX1_reasonAgainst_24 : decode cX1_reasonAgainst 24 = .ok (.aload_n 0, 1) := by decide +kernel
theorem dX1_reasonAgainst_25 : decode cX1_reasonAgainst 25 = .ok (.iload_n 2, 1) := by decide +kernel
theorem dX1_reasonAgainst_26 : decode cX1_reasonAgainst 26 = .ok (.invokevirtual 176, 3) := by decide +kernel
theorem dX1_reasonAgainst_29 : decode cX1_reasonAgainst 29 = .ok (.ifCond .eq 5, 3) := by decide +kernel
theorem dX1_reasonAgainst_32 : decode cX1_reasonAgainst 32 = .ok (.iconst 2, 1) := by decide +kernel
theorem dX1_reasonAgainst_33 : decode cX1_reasonAgainst 33 = .ok (.ireturn, 1) := by decide +kernel
theorem dX1_reasonAgainst_34 : decode cX1_reasonAgainst 34 = .ok (.aload_n 0, 1) := by decide +kernel
theorem dX1_reasonAgainst_35 : decode cX1_reasonAgainst 35 = .ok (.getfield 30, 3) := by decide +kernel
theorem dX1_reasonAgainst_38 : decode cX1_reasonAgainst 38 = .ok (.getfield 119, 3) := by decide +kernel
theorem dX1_reasonAgainst_41 : decode cX1_reasonAgainst 41 = .ok (.iload_n 2, 1) := by decide +kernel
theorem dX1_reasonAgainst_42 : decode cX1_reasonAgainst 42 = .ok (.iaload, 1) := by decide +kernel
theorem dX1_reasonAgainst_43 : decode cX1_reasonAgainst 43 = .ok (.aload_n 0, 1) := by decide +kernel
theorem dX1_reasonAgainst_44 : decode cX1_reasonAgainst 44 = .ok (.aload_n 0, 1) := by decide +kernel
theorem dX1_reasonAgainst_45 : decode cX1_reasonAgainst 45 = .ok (.getfield 37, 3) := by decide +kernel
theorem dX1_reasonAgainst_48 : decode cX1_reasonAgainst 48 = .ok (.getfield 142, 3) := by decide +kernel
theorem dX1_reasonAgainst_51 : decode cX1_reasonAgainst 51 = .ok (.iload_n 1, 1) := by decide +kernel
theorem dX1_reasonAgainst_52 : decode cX1_reasonAgainst 52 = .ok (.iaload, 1) := by decide +kernel
theorem dX1_reasonAgainst_53 : decode cX1_reasonAgainst 53 = .ok (.invokevirtual 145, 3) := by decide +kernel
theorem dX1_reasonAgainst_56 : decode cX1_reasonAgainst 56 = .ok (.if_icmp .ge 7, 3) := by decide +kernel
theorem dX1_reasonAgainst_59 : decode cX1_reasonAgainst 59 = .ok (.iconst 3, 1) := by decide +kernel
theorem dX1_reasonAgainst_60 : decode cX1_reasonAgainst 60 = .ok (.goto 4, 3) := by decide +kernel
theorem dX1_reasonAgainst_63 : decode cX1_reasonAgainst 63 = .ok (.iconst 0, 1) := by decide +kernel
theorem dX1_reasonAgainst_64 : decode cX1_reasonAgainst 64 = .ok (.ireturn, 1) := by decide +kernel
theorem dX1_countExemptible_0 : decode cX1_countExemptible 0 = .ok (.aload_n 0, 1) := by decide +kernel
theorem dX1_countExemptible_1 : decode cX1_countExemptible 1 = .ok (.iload_n 1, 1) := by decide +kernel
theorem dX1_countExemptible_2 : decode cX1_countExemptible 2 = .ok (.invokevirtual 176, 3) := by decide +kernel
theorem dX1_countExemptible_5 : decode cX1_countExemptible 5 = .ok (.ifCond .eq 5, 3) := by decide +kernel
theorem dX1_countExemptible_8 : decode cX1_countExemptible 8 = .ok (.iconst 0, 1) := by decide +kernel
theorem dX1_countExemptible_9 : decode cX1_countExemptible 9 = .ok (.ireturn, 1) := by decide +kernel
theorem dX1_countExemptible_10 : decode cX1_countExemptible 10 = .ok (.iconst 0, 1) := by decide +kernel
theorem dX1_countExemptible_11 : decode cX1_countExemptible 11 = .ok (.istore_n 2, 1) := by decide +kernel
theorem dX1_countExemptible_12 : decode cX1_countExemptible 12 = .ok (.aload_n 0, 1) := by decide +kernel
theorem dX1_countExemptible_13 : decode cX1_countExemptible 13 = .ok (.getfield 30, 3) := by decide +kernel
theorem dX1_countExemptible_16 : decode cX1_countExemptible 16 = .ok (.getfield 119, 3) := by decide +kernel
theorem dX1_countExemptible_19 : decode cX1_countExemptible 19 = .ok (.iload_n 1, 1) := by decide +kernel
theorem dX1_countExemptible_20 : decode cX1_countExemptible 20 = .ok (.iaload, 1) := by decide +kernel
theorem dX1_countExemptible_21 : decode cX1_countExemptible 21 = .ok (.istore_n 3, 1) := by decide +kernel
theorem dX1_countExemptible_22 : decode cX1_countExemptible 22 = .ok (.iconst 0, 1) := by decide +kernel
theorem dX1_countExemptible_23 : decode cX1_countExemptible 23 = .ok (.istore 4, 2) := by decide +kernel
theorem dX1_countExemptible_25 : decode cX1_countExemptible 25 = .ok (.iload 4, 2) := by decide +kernel
theorem dX1_countExemptible_27 : decode cX1_countExemptible 27 = .ok (.aload_n 0, 1) := by decide +kernel
theorem dX1_countExemptible_28 : decode cX1_countExemptible 28 = .ok (.getfield 37, 3) := by decide +kernel
theorem dX1_countExemptible_31 : decode cX1_countExemptible 31 = .ok (.getfield 186, 3) := by decide +kernel
theorem dX1_countExemptible_34 : decode cX1_countExemptible 34 = .ok (.if_icmp .ge 74, 3) := by decide +kernel
theorem dX1_countExemptible_37 : decode cX1_countExemptible 37 = .ok (.aload_n 0, 1) := by decide +kernel
theorem dX1_countExemptible_38 : decode cX1_countExemptible 38 = .ok (.getfield 37, 3) := by decide +kernel
theorem dX1_countExemptible_41 : decode cX1_countExemptible 41 = .ok (.getfield 189, 3) := by decide +kernel
theorem dX1_countExemptible_44 : decode cX1_countExemptible 44 = .ok (.iload 4, 2) := by decide +kernel
theorem dX1_countExemptible_46 : decode cX1_countExemptible 46 = .ok (.iaload, 1) := by decide +kernel
theorem dX1_countExemptible_47 : decode cX1_countExemptible 47 = .ok (.istore 5, 2) := by decide +kernel
theorem dX1_countExemptible_49 : decode cX1_countExemptible 49 = .ok (.aload_n 0, 1) := by decide +kernel
theorem dX1_countExemptible_50 : decode cX1_countExemptible 50 = .ok (.getfield 37, 3) := by decide +kernel
theorem dX1_countExemptible_53 : decode cX1_countExemptible 53 = .ok (.getfield 148, 3) := by decide +kernel
theorem dX1_countExemptible_56 : decode cX1_countExemptible 56 = .ok (.iload 5, 2) := by decide +kernel
theorem dX1_countExemptible_58 : decode cX1_countExemptible 58 = .ok (.iaload, 1) := by decide +kernel
theorem dX1_countExemptible_59 : decode cX1_countExemptible 59 = .ok (.iload_n 1, 1) := by decide +kernel
theorem dX1_countExemptible_60 : decode cX1_countExemptible 60 = .ok (.if_icmp .ne 42, 3) := by decide +kernel
theorem dX1_countExemptible_63 : decode cX1_countExemptible 63 = .ok (.aload_n 0, 1) := by decide +kernel
theorem dX1_countExemptible_64 : decode cX1_countExemptible 64 = .ok (.getfield 37, 3) := by decide +kernel
theorem dX1_countExemptible_67 : decode cX1_countExemptible 67 = .ok (.getfield 154, 3) := by decide +kernel
theorem dX1_countExemptible_70 : decode cX1_countExemptible 70 = .ok (.iload 5, 2) := by decide +kernel
theorem dX1_countExemptible_72 : decode cX1_countExemptible 72 = .ok (.iaload, 1) := by decide +kernel
theorem dX1_countExemptible_73 : decode cX1_countExemptible 73 = .ok (.ifCond .ne 29, 3) := by decide +kernel
theorem dX1_countExemptible_76 : decode cX1_countExemptible 76 = .ok (.iload_n 3, 1) := by decide +kernel
theorem dX1_countExemptible_77 : decode cX1_countExemptible 77 = .ok (.aload_n 0, 1) := by decide +kernel
theorem dX1_countExemptible_78 : decode cX1_countExemptible 78 = .ok (.aload_n 0, 1) := by decide +kernel
theorem dX1_countExemptible_79 : decode cX1_countExemptible 79 = .ok (.getfield 37, 3) := by decide +kernel
theorem dX1_countExemptible_82 : decode cX1_countExemptible 82 = .ok (.getfield 142, 3) := by decide +kernel
theorem dX1_countExemptible_85 : decode cX1_countExemptible 85 = .ok (.iload 5, 2) := by decide +kernel
theorem dX1_countExemptible_87 : decode cX1_countExemptible 87 = .ok (.iaload, 1) := by decide +kernel
theorem dX1_countExemptible_88 : decode cX1_countExemptible 88 = .ok (.invokevirtual 145, 3) := by decide +kernel
theorem dX1_countExemptible_91 : decode cX1_countExemptible 91 = .ok (.isub, 1) := by decide +kernel
theorem dX1_countExemptible_92 : decode cX1_countExemptible 92 = .ok (.istore_n 3, 1) := by decide +kernel
theorem dX1_countExemptible_93 : decode cX1_countExemptible 93 = .ok (.iload_n 3, 1) := by decide +kernel
theorem dX1_countExemptible_94 : decode cX1_countExemptible 94 = .ok (.ifCond .ge 5, 3) := by decide +kernel
theorem dX1_countExemptible_97 : decode cX1_countExemptible 97 = .ok (.iload_n 2, 1) := by decide +kernel
theorem dX1_countExemptible_98 : decode cX1_countExemptible 98 = .ok (.ireturn, 1) := by decide +kernel
theorem dX1_countExemptible_99 : decode cX1_countExemptible 99 = .ok (.iinc 2 1, 3) := by decide +kernel
theorem dX1_countExemptible_102 : decode cX1_countExemptible 102 = .ok (.iinc 4 1, 3) := by decide +kernel
theorem dX1_countExemptible_105 : decode cX1_countExemptible 105 = .ok (.goto (-80), 3) := by decide +kernel
theorem dX1_countExemptible_108 : decode cX1_countExemptible 108 = .ok (.iload_n 2, 1) := by decide +kernel
theorem dX1_countExemptible_109 : decode cX1_countExemptible 109 = .ok (.ireturn, 1) := by decide +kernel
theorem dX1_firstThaw_0 : decode cX1_firstThaw 0 = .ok (.aload_n 0, 1) := by decide +kernel
theorem dX1_firstThaw_1 : decode cX1_firstThaw 1 = .ok (.getfield 48, 3) := by decide +kernel
theorem dX1_firstThaw_4 : decode cX1_firstThaw 4 = .ok (.istore_n 1, 1) := by decide +kernel
theorem dX1_firstThaw_5 : decode cX1_firstThaw 5 = .ok (.iload_n 1, 1) := by decide +kernel
theorem dX1_firstThaw_6 : decode cX1_firstThaw 6 = .ok (.bipush 40, 2) := by decide +kernel
theorem dX1_firstThaw_8 : decode cX1_firstThaw 8 = .ok (.if_icmp .ge 20, 3) := by decide +kernel
theorem dX1_firstThaw_11 : decode cX1_firstThaw 11 = .ok (.aload_n 0, 1) := by decide +kernel
theorem dX1_firstThaw_12 : decode cX1_firstThaw 12 = .ok (.getfield 23, 3) := by decide +kernel
theorem dX1_firstThaw_15 : decode cX1_firstThaw 15 = .ok (.iload_n 1, 1) := by decide +kernel
theorem dX1_firstThaw_16 : decode cX1_firstThaw 16 = .ok (.baload, 1) := by decide +kernel
theorem dX1_firstThaw_17 : decode cX1_firstThaw 17 = .ok (.ifCond .ne 5, 3) := by decide +kernel
theorem dX1_firstThaw_20 : decode cX1_firstThaw 20 = .ok (.iload_n 1, 1) := by decide +kernel
theorem dX1_firstThaw_21 : decode cX1_firstThaw 21 = .ok (.ireturn, 1) := by decide +kernel
theorem dX1_firstThaw_22 : decode cX1_firstThaw 22 = .ok (.iinc 1 1, 3) := by decide +kernel
theorem dX1_firstThaw_25 : decode cX1_firstThaw 25 = .ok (.goto (-20), 3) := by decide +kernel
theorem dX1_firstThaw_28 : decode cX1_firstThaw 28 = .ok (.iconst (-1), 1) := by decide +kernel
theorem dX1_firstThaw_29 : decode cX1_firstThaw 29 = .ok (.ireturn, 1) := by decide +kernel
theorem dX1_countFrozen_0 : decode cX1_countFrozen 0 = .ok (.iconst 0, 1) := by decide +kernel
theorem dX1_countFrozen_1 : decode cX1_countFrozen 1 = .ok (.istore_n 2, 1) := by decide +kernel
theorem dX1_countFrozen_2 : decode cX1_countFrozen 2 = .ok (.iload_n 1, 1) := by decide +kernel
theorem dX1_countFrozen_3 : decode cX1_countFrozen 3 = .ok (.istore_n 3, 1) := by decide +kernel
theorem dX1_countFrozen_4 : decode cX1_countFrozen 4 = .ok (.iload_n 3, 1) := by decide +kernel
theorem dX1_countFrozen_5 : decode cX1_countFrozen 5 = .ok (.bipush 40, 2) := by decide +kernel
theorem dX1_countFrozen_7 : decode cX1_countFrozen 7 = .ok (.if_icmp .ge 21, 3) := by decide +kernel
theorem dX1_countFrozen_10 : decode cX1_countFrozen 10 = .ok (.iload_n 2, 1) := by decide +kernel
theorem dX1_countFrozen_11 : decode cX1_countFrozen 11 = .ok (.aload_n 0, 1) := by decide +kernel
theorem dX1_countFrozen_12 : decode cX1_countFrozen 12 = .ok (.getfield 23, 3) := by decide +kernel
theorem dX1_countFrozen_15 : decode cX1_countFrozen 15 = .ok (.iload_n 3, 1) := by decide +kernel
theorem dX1_countFrozen_16 : decode cX1_countFrozen 16 = .ok (.baload, 1) := by decide +kernel
theorem dX1_countFrozen_17 : decode cX1_countFrozen 17 = .ok (.invokestatic 166, 3) := by decide +kernel
theorem dX1_countFrozen_20 : decode cX1_countFrozen 20 = .ok (.iadd, 1) := by decide +kernel
theorem dX1_countFrozen_21 : decode cX1_countFrozen 21 = .ok (.istore_n 2, 1) := by decide +kernel
theorem dX1_countFrozen_22 : decode cX1_countFrozen 22 = .ok (.iinc 3 1, 3) := by decide +kernel
theorem dX1_countFrozen_25 : decode cX1_countFrozen 25 = .ok (.goto (-21), 3) := by decide +kernel
theorem dX1_countFrozen_28 : decode cX1_countFrozen 28 = .ok (.iload_n 2, 1) := by decide +kernel
theorem dX1_countFrozen_29 : decode cX1_countFrozen 29 = .ok (.ireturn, 1) := by decide +kernel
theorem dX1_countOwing_0 : decode cX1_countOwing 0 = .ok (.iconst 0, 1) := by decide +kernel
theorem dX1_countOwing_1 : decode cX1_countOwing 1 = .ok (.istore_n 1, 1) := by decide +kernel
theorem dX1_countOwing_2 : decode cX1_countOwing 2 = .ok (.iconst 0, 1) := by decide +kernel
theorem dX1_countOwing_3 : decode cX1_countOwing 3 = .ok (.istore_n 2, 1) := by decide +kernel
theorem dX1_countOwing_4 : decode cX1_countOwing 4 = .ok (.iload_n 2, 1) := by decide +kernel
theorem dX1_countOwing_5 : decode cX1_countOwing 5 = .ok (.aload_n 0, 1) := by decide +kernel
theorem dX1_countOwing_6 : decode cX1_countOwing 6 = .ok (.getfield 30, 3) := by decide +kernel
theorem dX1_countOwing_9 : decode cX1_countOwing 9 = .ok (.getfield 68, 3) := by decide +kernel
theorem dX1_countOwing_12 : decode cX1_countOwing 12 = .ok (.if_icmp .ge 20, 3) := by decide +kernel
theorem dX1_countOwing_15 : decode cX1_countOwing 15 = .ok (.iload_n 1, 1) := by decide +kernel
theorem dX1_countOwing_16 : decode cX1_countOwing 16 = .ok (.aload_n 0, 1) := by decide +kernel
theorem dX1_countOwing_17 : decode cX1_countOwing 17 = .ok (.iload_n 2, 1) := by decide +kernel
theorem dX1_countOwing_18 : decode cX1_countOwing 18 = .ok (.invokevirtual 176, 3) := by decide +kernel
theorem dX1_countOwing_21 : decode cX1_countOwing 21 = .ok (.invokestatic 166, 3) := by decide +kernel
theorem dX1_countOwing_24 : decode cX1_countOwing 24 = .ok (.iadd, 1) := by decide +kernel
theorem dX1_countOwing_25 : decode cX1_countOwing 25 = .ok (.istore_n 1, 1) := by decide +kernel
theorem dX1_countOwing_26 : decode cX1_countOwing 26 = .ok (.iinc 2 1, 3) := by decide +kernel
theorem dX1_countOwing_29 : decode cX1_countOwing 29 = .ok (.goto (-25), 3) := by decide +kernel
theorem dX1_countOwing_32 : decode cX1_countOwing 32 = .ok (.iload_n 1, 1) := by decide +kernel
theorem dX1_countOwing_33 : decode cX1_countOwing 33 = .ok (.ireturn, 1) := by decide +kernel
theorem dX1_wholeFree_0 : decode cX1_wholeFree 0 = .ok (.aload_n 0, 1) := by decide +kernel
theorem dX1_wholeFree_1 : decode cX1_wholeFree 1 = .ok (.getfield 30, 3) := by decide +kernel
theorem dX1_wholeFree_4 : decode cX1_wholeFree 4 = .ok (.getfield 119, 3) := by decide +kernel
theorem dX1_wholeFree_7 : decode cX1_wholeFree 7 = .ok (.aload_n 0, 1) := by decide +kernel
theorem dX1_wholeFree_8 : decode cX1_wholeFree 8 = .ok (.getfield 30, 3) := by decide +kernel
theorem dX1_wholeFree_11 : decode cX1_wholeFree 11 = .ok (.getfield 68, 3) := by decide +kernel
theorem dX1_wholeFree_14 : decode cX1_wholeFree 14 = .ok (.invokestatic 192, 3) := by decide +kernel
theorem dX1_wholeFree_17 : decode cX1_wholeFree 17 = .ok (.ireturn, 1) := by decide +kernel
theorem dX1_wholeHeld_0 : decode cX1_wholeHeld 0 = .ok (.aload_n 0, 1) := by decide +kernel
theorem dX1_wholeHeld_1 : decode cX1_wholeHeld 1 = .ok (.getfield 37, 3) := by decide +kernel
theorem dX1_wholeHeld_4 : decode cX1_wholeHeld 4 = .ok (.getfield 151, 3) := by decide +kernel
theorem dX1_wholeHeld_7 : decode cX1_wholeHeld 7 = .ok (.aload_n 0, 1) := by decide +kernel
theorem dX1_wholeHeld_8 : decode cX1_wholeHeld 8 = .ok (.getfield 37, 3) := by decide +kernel
theorem dX1_wholeHeld_11 : decode cX1_wholeHeld 11 = .ok (.getfield 135, 3) := by decide +kernel
theorem dX1_wholeHeld_14 : decode cX1_wholeHeld 14 = .ok (.invokestatic 192, 3) := by decide +kernel
theorem dX1_wholeHeld_17 : decode cX1_wholeHeld 17 = .ok (.ireturn, 1) := by decide +kernel
theorem dX1_teamValue_0 : decode cX1_teamValue 0 = .ok (.iload_n 2, 1) := by decide +kernel
theorem dX1_teamValue_1 : decode cX1_teamValue 1 = .ok (.tableswitch 161 0 9 #[55, 65, 74, 84, 94, 114, 124, 134, 143, 152], 55) := by decide +kernel
theorem dX1_teamValue_56 : decode cX1_teamValue 56 = .ok (.aload_n 0, 1) := by decide +kernel
theorem dX1_teamValue_57 : decode cX1_teamValue 57 = .ok (.getfield 30, 3) := by decide +kernel
theorem dX1_teamValue_60 : decode cX1_teamValue 60 = .ok (.getfield 119, 3) := by decide +kernel
theorem dX1_teamValue_63 : decode cX1_teamValue 63 = .ok (.iload_n 1, 1) := by decide +kernel
theorem dX1_teamValue_64 : decode cX1_teamValue 64 = .ok (.iaload, 1) := by decide +kernel
theorem dX1_teamValue_65 : decode cX1_teamValue 65 = .ok (.ireturn, 1) := by decide +kernel
theorem dX1_teamValue_66 : decode cX1_teamValue 66 = .ok (.aload_n 0, 1) := by decide +kernel
theorem dX1_teamValue_67 : decode cX1_teamValue 67 = .ok (.getfield 37, 3) := by decide +kernel
theorem dX1_teamValue_70 : decode cX1_teamValue 70 = .ok (.iload_n 1, 1) := by decide +kernel
theorem dX1_teamValue_71 : decode cX1_teamValue 71 = .ok (.invokevirtual 196, 3) := by decide +kernel
theorem dX1_teamValue_74 : decode cX1_teamValue 74 = .ok (.ireturn, 1) := by decide +kernel
theorem dX1_teamValue_75 : decode cX1_teamValue 75 = .ok (.aload_n 0, 1) := by decide +kernel
theorem dX1_teamValue_76 : decode cX1_teamValue 76 = .ok (.getfield 30, 3) := by decide +kernel
theorem dX1_teamValue_79 : decode cX1_teamValue 79 = .ok (.getfield 199, 3) := by decide +kernel
theorem dX1_teamValue_82 : decode cX1_teamValue 82 = .ok (.iload_n 1, 1) := by decide +kernel
theorem dX1_teamValue_83 : decode cX1_teamValue 83 = .ok (.iaload, 1) := by decide +kernel
theorem dX1_teamValue_84 : decode cX1_teamValue 84 = .ok (.ireturn, 1) := by decide +kernel
theorem dX1_teamValue_85 : decode cX1_teamValue 85 = .ok (.aload_n 0, 1) := by decide +kernel
theorem dX1_teamValue_86 : decode cX1_teamValue 86 = .ok (.getfield 30, 3) := by decide +kernel
theorem dX1_teamValue_89 : decode cX1_teamValue 89 = .ok (.getfield 173, 3) := by decide +kernel
theorem dX1_teamValue_92 : decode cX1_teamValue 92 = .ok (.iload_n 1, 1) := by decide +kernel
theorem dX1_teamValue_93 : decode cX1_teamValue 93 = .ok (.iaload, 1) := by decide +kernel
theorem dX1_teamValue_94 : decode cX1_teamValue 94 = .ok (.ireturn, 1) := by decide +kernel
theorem dX1_teamValue_95 : decode cX1_teamValue 95 = .ok (.aload_n 0, 1) := by decide +kernel
theorem dX1_teamValue_96 : decode cX1_teamValue 96 = .ok (.getfield 37, 3) := by decide +kernel
theorem dX1_teamValue_99 : decode cX1_teamValue 99 = .ok (.iload_n 1, 1) := by decide +kernel
theorem dX1_teamValue_100 : decode cX1_teamValue 100 = .ok (.iconst 0, 1) := by decide +kernel
theorem dX1_teamValue_101 : decode cX1_teamValue 101 = .ok (.invokevirtual 202, 3) := by decide +kernel
theorem dX1_teamValue_104 : decode cX1_teamValue 104 = .ok (.aload_n 0, 1) := by decide +kernel
theorem dX1_teamValue_105 : decode cX1_teamValue 105 = .ok (.getfield 37, 3) := by decide +kernel
theorem dX1_teamValue_108 : decode cX1_teamValue 108 = .ok (.iload_n 1, 1) := by decide +kernel
theorem dX1_teamValue_109 : decode cX1_teamValue 109 = .ok (.iconst 1, 1) := by decide +kernel
theorem dX1_teamValue_110 : decode cX1_teamValue 110 = .ok (.invokevirtual 202, 3) := by decide +kernel
theorem dX1_teamValue_113 : decode cX1_teamValue 113 = .ok (.iadd, 1) := by decide +kernel
theorem dX1_teamValue_114 : decode cX1_teamValue 114 = .ok (.ireturn, 1) := by decide +kernel
theorem dX1_teamValue_115 : decode cX1_teamValue 115 = .ok (.aload_n 0, 1) := by decide +kernel
theorem dX1_teamValue_116 : decode cX1_teamValue 116 = .ok (.getfield 37, 3) := by decide +kernel
theorem dX1_teamValue_119 : decode cX1_teamValue 119 = .ok (.iload_n 1, 1) := by decide +kernel
theorem dX1_teamValue_120 : decode cX1_teamValue 120 = .ok (.iconst 2, 1) := by decide +kernel
theorem dX1_teamValue_121 : decode cX1_teamValue 121 = .ok (.invokevirtual 202, 3) := by decide +kernel
theorem dX1_teamValue_124 : decode cX1_teamValue 124 = .ok (.ireturn, 1) := by decide +kernel
theorem dX1_teamValue_125 : decode cX1_teamValue 125 = .ok (.aload_n 0, 1) := by decide +kernel
theorem dX1_teamValue_126 : decode cX1_teamValue 126 = .ok (.getfield 37, 3) := by decide +kernel
theorem dX1_teamValue_129 : decode cX1_teamValue 129 = .ok (.iload_n 1, 1) := by decide +kernel
theorem dX1_teamValue_130 : decode cX1_teamValue 130 = .ok (.iconst 3, 1) := by decide +kernel
theorem dX1_teamValue_131 : decode cX1_teamValue 131 = .ok (.invokevirtual 202, 3) := by decide +kernel
theorem dX1_teamValue_134 : decode cX1_teamValue 134 = .ok (.ireturn, 1) := by decide +kernel
theorem dX1_teamValue_135 : decode cX1_teamValue 135 = .ok (.aload_n 0, 1) := by decide +kernel
theorem dX1_teamValue_136 : decode cX1_teamValue 136 = .ok (.getfield 44, 3) := by decide +kernel
theorem dX1_teamValue_139 : decode cX1_teamValue 139 = .ok (.iload_n 1, 1) := by decide +kernel
theorem dX1_teamValue_140 : decode cX1_teamValue 140 = .ok (.invokevirtual 205, 3) := by decide +kernel
theorem dX1_teamValue_143 : decode cX1_teamValue 143 = .ok (.ireturn, 1) := by decide +kernel
theorem dX1_teamValue_144 : decode cX1_teamValue 144 = .ok (.aload_n 0, 1) := by decide +kernel
theorem dX1_teamValue_145 : decode cX1_teamValue 145 = .ok (.getfield 44, 3) := by decide +kernel
theorem dX1_teamValue_148 : decode cX1_teamValue 148 = .ok (.iload_n 1, 1) := by decide +kernel
theorem dX1_teamValue_149 : decode cX1_teamValue 149 = .ok (.invokevirtual 208, 3) := by decide +kernel
theorem dX1_teamValue_152 : decode cX1_teamValue 152 = .ok (.ireturn, 1) := by decide +kernel
theorem dX1_teamValue_153 : decode cX1_teamValue 153 = .ok (.aload_n 0, 1) := by decide +kernel
theorem dX1_teamValue_154 : decode cX1_teamValue 154 = .ok (.iload_n 1, 1) := by decide +kernel
theorem dX1_teamValue_155 : decode cX1_teamValue 155 = .ok (.invokevirtual 176, 3) := by decide +kernel
theorem dX1_teamValue_158 : decode cX1_teamValue 158 = .ok (.invokestatic 166, 3) := by decide +kernel
theorem dX1_teamValue_161 : decode cX1_teamValue 161 = .ok (.ireturn, 1) := by decide +kernel
theorem dX1_teamValue_162 : decode cX1_teamValue 162 = .ok (.aload_n 0, 1) := by decide +kernel
theorem dX1_teamValue_163 : decode cX1_teamValue 163 = .ok (.getfield 37, 3) := by decide +kernel
theorem dX1_teamValue_166 : decode cX1_teamValue 166 = .ok (.iload_n 1, 1) := by decide +kernel
theorem dX1_teamValue_167 : decode cX1_teamValue 167 = .ok (.aload_n 0, 1) := by decide +kernel
theorem dX1_teamValue_168 : decode cX1_teamValue 168 = .ok (.getfield 48, 3) := by decide +kernel
theorem dX1_teamValue_171 : decode cX1_teamValue 171 = .ok (.invokevirtual 91, 3) := by decide +kernel
theorem dX1_teamValue_174 : decode cX1_teamValue 174 = .ok (.invokestatic 166, 3) := by decide +kernel
theorem dX1_teamValue_177 : decode cX1_teamValue 177 = .ok (.ireturn, 1) := by decide +kernel
theorem dX1_valueOfAll_0 : decode cX1_valueOfAll 0 = .ok (.iload_n 1, 1) := by decide +kernel
theorem dX1_valueOfAll_1 : decode cX1_valueOfAll 1 = .ok (.tableswitch 226 0 15 #[79, 87, 95, 103, 111, 118, 125, 132, 139, 144, 153, 158, 163, 181, 199, 217], 79) := by decide +kernel
theorem dX1_valueOfAll_80 : decode cX1_valueOfAll 80 = .ok (.aload_n 0, 1) := by decide +kernel
theorem dX1_valueOfAll_81 : decode cX1_valueOfAll 81 = .ok (.getfield 30, 3) := by decide +kernel
theorem dX1_valueOfAll_84 : decode cX1_valueOfAll 84 = .ok (.getfield 68, 3) := by decide +kernel
theorem dX1_valueOfAll_87 : decode cX1_valueOfAll 87 = .ok (.ireturn, 1) := by decide +kernel
theorem dX1_valueOfAll_88 : decode cX1_valueOfAll 88 = .ok (.aload_n 0, 1) := by decide +kernel
theorem dX1_valueOfAll_89 : decode cX1_valueOfAll 89 = .ok (.getfield 37, 3) := by decide +kernel
theorem dX1_valueOfAll_92 : decode cX1_valueOfAll 92 = .ok (.getfield 135, 3) := by decide +kernel
theorem dX1_valueOfAll_95 : decode cX1_valueOfAll 95 = .ok (.ireturn, 1) := by decide +kernel
theorem dX1_valueOfAll_96 : decode cX1_valueOfAll 96 = .ok (.aload_n 0, 1) := by decide +kernel
theorem dX1_valueOfAll_97 : decode cX1_valueOfAll 97 = .ok (.getfield 44, 3) := by decide +kernel
theorem dX1_valueOfAll_100 : decode cX1_valueOfAll 100 = .ok (.getfield 99, 3) := by decide +kernel
theorem dX1_valueOfAll_103 : decode cX1_valueOfAll 103 = .ok (.ireturn, 1) := by decide +kernel
theorem dX1_valueOfAll_104 : decode cX1_valueOfAll 104 = .ok (.aload_n 0, 1) := by decide +kernel
theorem dX1_valueOfAll_105 : decode cX1_valueOfAll 105 = .ok (.getfield 44, 3) := by decide +kernel
theorem dX1_valueOfAll_108 : decode cX1_valueOfAll 108 = .ok (.invokevirtual 211, 3) := by decide +kernel
theorem dX1_valueOfAll_111 : decode cX1_valueOfAll 111 = .ok (.ireturn, 1) := by decide +kernel
theorem dX1_valueOfAll_112 : decode cX1_valueOfAll 112 = .ok (.aload_n 0, 1) := by decide +kernel
theorem dX1_valueOfAll_113 : decode cX1_valueOfAll 113 = .ok (.getfield 18, 3) := by decide +kernel
theorem dX1_valueOfAll_116 : decode cX1_valueOfAll 116 = .ok (.iconst 0, 1) := by decide +kernel
theorem dX1_valueOfAll_117 : decode cX1_valueOfAll 117 = .ok (.iaload, 1) := by decide +kernel
theorem dX1_valueOfAll_118 : decode cX1_valueOfAll 118 = .ok (.ireturn, 1) := by decide +kernel
theorem dX1_valueOfAll_119 : decode cX1_valueOfAll 119 = .ok (.aload_n 0, 1) := by decide +kernel
theorem dX1_valueOfAll_120 : decode cX1_valueOfAll 120 = .ok (.getfield 18, 3) := by decide +kernel
theorem dX1_valueOfAll_123 : decode cX1_valueOfAll 123 = .ok (.iconst 1, 1) := by decide +kernel
theorem dX1_valueOfAll_124 : decode cX1_valueOfAll 124 = .ok (.iaload, 1) := by decide +kernel
theorem dX1_valueOfAll_125 : decode cX1_valueOfAll 125 = .ok (.ireturn, 1) := by decide +kernel
theorem dX1_valueOfAll_126 : decode cX1_valueOfAll 126 = .ok (.aload_n 0, 1) := by decide +kernel
theorem dX1_valueOfAll_127 : decode cX1_valueOfAll 127 = .ok (.getfield 18, 3) := by decide +kernel
theorem dX1_valueOfAll_130 : decode cX1_valueOfAll 130 = .ok (.iconst 2, 1) := by decide +kernel
theorem dX1_valueOfAll_131 : decode cX1_valueOfAll 131 = .ok (.iaload, 1) := by decide +kernel
theorem dX1_valueOfAll_132 : decode cX1_valueOfAll 132 = .ok (.ireturn, 1) := by decide +kernel
theorem dX1_valueOfAll_133 : decode cX1_valueOfAll 133 = .ok (.aload_n 0, 1) := by decide +kernel
theorem dX1_valueOfAll_134 : decode cX1_valueOfAll 134 = .ok (.getfield 18, 3) := by decide +kernel
theorem dX1_valueOfAll_137 : decode cX1_valueOfAll 137 = .ok (.iconst 3, 1) := by decide +kernel
theorem dX1_valueOfAll_138 : decode cX1_valueOfAll 138 = .ok (.iaload, 1) := by decide +kernel
theorem dX1_valueOfAll_139 : decode cX1_valueOfAll 139 = .ok (.ireturn, 1) := by decide +kernel
theorem dX1_valueOfAll_140 : decode cX1_valueOfAll 140 = .ok (.aload_n 0, 1) := by decide +kernel
theorem dX1_valueOfAll_141 : decode cX1_valueOfAll 141 = .ok (.getfield 48, 3) := by decide +kernel
theorem dX1_valueOfAll_144 : decode cX1_valueOfAll 144 = .ok (.ireturn, 1) := by decide +kernel
theorem dX1_valueOfAll_145 : decode cX1_valueOfAll 145 = .ok (.aload_n 0, 1) := by decide +kernel
theorem dX1_valueOfAll_146 : decode cX1_valueOfAll 146 = .ok (.aload_n 0, 1) := by decide +kernel
theorem dX1_valueOfAll_147 : decode cX1_valueOfAll 147 = .ok (.getfield 48, 3) := by decide +kernel
theorem dX1_valueOfAll_150 : decode cX1_valueOfAll 150 = .ok (.invokevirtual 75, 3) := by decide +kernel
theorem dX1_valueOfAll_153 : decode cX1_valueOfAll 153 = .ok (.ireturn, 1) := by decide +kernel
theorem dX1_valueOfAll_154 : decode cX1_valueOfAll 154 = .ok (.aload_n 0, 1) := by decide +kernel
theorem dX1_valueOfAll_155 : decode cX1_valueOfAll 155 = .ok (.invokevirtual 214, 3) := by decide +kernel
theorem dX1_valueOfAll_158 : decode cX1_valueOfAll 158 = .ok (.ireturn, 1) := by decide +kernel
theorem dX1_valueOfAll_159 : decode cX1_valueOfAll 159 = .ok (.aload_n 0, 1) := by decide +kernel
theorem dX1_valueOfAll_160 : decode cX1_valueOfAll 160 = .ok (.invokevirtual 217, 3) := by decide +kernel
theorem dX1_valueOfAll_163 : decode cX1_valueOfAll 163 = .ok (.ireturn, 1) := by decide +kernel
theorem dX1_valueOfAll_164 : decode cX1_valueOfAll 164 = .ok (.aload_n 0, 1) := by decide +kernel
theorem dX1_valueOfAll_165 : decode cX1_valueOfAll 165 = .ok (.getfield 30, 3) := by decide +kernel
theorem dX1_valueOfAll_168 : decode cX1_valueOfAll 168 = .ok (.getfield 220, 3) := by decide +kernel
theorem dX1_valueOfAll_171 : decode cX1_valueOfAll 171 = .ok (.aload_n 0, 1) := by decide +kernel
theorem dX1_valueOfAll_172 : decode cX1_valueOfAll 172 = .ok (.getfield 30, 3) := by decide +kernel
theorem dX1_valueOfAll_175 : decode cX1_valueOfAll 175 = .ok (.getfield 68, 3) := by decide +kernel
theorem dX1_valueOfAll_178 : decode cX1_valueOfAll 178 = .ok (.invokestatic 192, 3) := by decide +kernel
theorem dX1_valueOfAll_181 : decode cX1_valueOfAll 181 = .ok (.ireturn, 1) := by decide +kernel
theorem dX1_valueOfAll_182 : decode cX1_valueOfAll 182 = .ok (.aload_n 0, 1) := by decide +kernel
theorem dX1_valueOfAll_183 : decode cX1_valueOfAll 183 = .ok (.getfield 30, 3) := by decide +kernel
theorem dX1_valueOfAll_186 : decode cX1_valueOfAll 186 = .ok (.getfield 199, 3) := by decide +kernel
theorem dX1_valueOfAll_189 : decode cX1_valueOfAll 189 = .ok (.aload_n 0, 1) := by decide +kernel
theorem dX1_valueOfAll_190 : decode cX1_valueOfAll 190 = .ok (.getfield 30, 3) := by decide +kernel
theorem dX1_valueOfAll_193 : decode cX1_valueOfAll 193 = .ok (.getfield 68, 3) := by decide +kernel
theorem dX1_valueOfAll_196 : decode cX1_valueOfAll 196 = .ok (.invokestatic 192, 3) := by decide +kernel
theorem dX1_valueOfAll_199 : decode cX1_valueOfAll 199 = .ok (.ireturn, 1) := by decide +kernel
theorem dX1_valueOfAll_200 : decode cX1_valueOfAll 200 = .ok (.aload_n 0, 1) := by decide +kernel
theorem dX1_valueOfAll_201 : decode cX1_valueOfAll 201 = .ok (.getfield 30, 3) := by decide +kernel
theorem dX1_valueOfAll_204 : decode cX1_valueOfAll 204 = .ok (.getfield 173, 3) := by decide +kernel
theorem dX1_valueOfAll_207 : decode cX1_valueOfAll 207 = .ok (.aload_n 0, 1) := by decide +kernel
theorem dX1_valueOfAll_208 : decode cX1_valueOfAll 208 = .ok (.getfield 30, 3) := by decide +kernel
theorem dX1_valueOfAll_211 : decode cX1_valueOfAll 211 = .ok (.getfield 68, 3) := by decide +kernel
theorem dX1_valueOfAll_214 : decode cX1_valueOfAll 214 = .ok (.invokestatic 192, 3) := by decide +kernel
theorem dX1_valueOfAll_217 : decode cX1_valueOfAll 217 = .ok (.ireturn, 1) := by decide +kernel
theorem dX1_valueOfAll_218 : decode cX1_valueOfAll 218 = .ok (.aload_n 0, 1) := by decide +kernel
theorem dX1_valueOfAll_219 : decode cX1_valueOfAll 219 = .ok (.getfield 37, 3) := by decide +kernel
theorem dX1_valueOfAll_222 : decode cX1_valueOfAll 222 = .ok (.iconst 1, 1) := by decide +kernel
theorem dX1_valueOfAll_223 : decode cX1_valueOfAll 223 = .ok (.invokevirtual 223, 3) := by decide +kernel
theorem dX1_valueOfAll_226 : decode cX1_valueOfAll 226 = .ok (.ireturn, 1) := by decide +kernel
theorem dX1_valueOfAll_227 : decode cX1_valueOfAll 227 = .ok (.aload_n 0, 1) := by decide +kernel
theorem dX1_valueOfAll_228 : decode cX1_valueOfAll 228 = .ok (.invokevirtual 226, 3) := by decide +kernel
theorem dX1_valueOfAll_231 : decode cX1_valueOfAll 231 = .ok (.ireturn, 1) := by decide +kernel
theorem dX2_init_0 : decode cX2_init 0 = .ok (.aload_n 0, 1) := by decide +kernel
theorem dX2_init_1 : decode cX2_init 1 = .ok (.invokespecial 3, 3) := by decide +kernel
theorem dX2_init_4 : decode cX2_init 4 = .ok (.aload_n 0, 1) := by decide +kernel
theorem dX2_init_5 : decode cX2_init 5 = .ok (.bipush 30, 2) := by decide +kernel
theorem dX2_init_7 : decode cX2_init 7 = .ok (.newarray .int, 2) := by decide +kernel
theorem dX2_init_9 : decode cX2_init 9 = .ok (.putfield 9, 3) := by decide +kernel
theorem dX2_init_12 : decode cX2_init 12 = .ok (.aload_n 0, 1) := by decide +kernel
theorem dX2_init_13 : decode cX2_init 13 = .ok (.bipush 30, 2) := by decide +kernel
theorem dX2_init_15 : decode cX2_init 15 = .ok (.newarray .int, 2) := by decide +kernel
theorem dX2_init_17 : decode cX2_init 17 = .ok (.putfield 15, 3) := by decide +kernel
theorem dX2_init_20 : decode cX2_init 20 = .ok (.aload_n 0, 1) := by decide +kernel
theorem dX2_init_21 : decode cX2_init 21 = .ok (.bipush 30, 2) := by decide +kernel
theorem dX2_init_23 : decode cX2_init 23 = .ok (.newarray .int, 2) := by decide +kernel
theorem dX2_init_25 : decode cX2_init 25 = .ok (.putfield 18, 3) := by decide +kernel
theorem dX2_init_28 : decode cX2_init 28 = .ok (.aload_n 0, 1) := by decide +kernel
theorem dX2_init_29 : decode cX2_init 29 = .ok (.bipush 30, 2) := by decide +kernel
theorem dX2_init_31 : decode cX2_init 31 = .ok (.newarray .int, 2) := by decide +kernel
theorem dX2_init_33 : decode cX2_init 33 = .ok (.putfield 21, 3) := by decide +kernel
theorem dX2_init_36 : decode cX2_init 36 = .ok (.aload_n 0, 1) := by decide +kernel
theorem dX2_init_37 : decode cX2_init 37 = .ok (.bipush 30, 2) := by decide +kernel
theorem dX2_init_39 : decode cX2_init 39 = .ok (.newarray .int, 2) := by decide +kernel
theorem dX2_init_41 : decode cX2_init 41 = .ok (.putfield 24, 3) := by decide +kernel
theorem dX2_init_44 : decode cX2_init 44 = .ok (.aload_n 0, 1) := by decide +kernel
theorem dX2_init_45 : decode cX2_init 45 = .ok (.bipush 30, 2) := by decide +kernel
theorem dX2_init_47 : decode cX2_init 47 = .ok (.newarray .int, 2) := by decide +kernel
theorem dX2_init_49 : decode cX2_init 49 = .ok (.putfield 27, 3) := by decide +kernel
theorem dX2_init_52 : decode cX2_init 52 = .ok (.aload_n 0, 1) := by decide +kernel
theorem dX2_init_53 : decode cX2_init 53 = .ok (.bipush 30, 2) := by decide +kernel
theorem dX2_init_55 : decode cX2_init 55 = .ok (.newarray .int, 2) := by decide +kernel
theorem dX2_init_57 : decode cX2_init 57 = .ok (.putfield 30, 3) := by decide +kernel
theorem dX2_init_60 : decode cX2_init 60 = .ok (.aload_n 0, 1) := by decide +kernel
theorem dX2_init_61 : decode cX2_init 61 = .ok (.bipush 30, 2) := by decide +kernel
theorem dX2_init_63 : decode cX2_init 63 = .ok (.newarray .int, 2) := by decide +kernel
theorem dX2_init_65 : decode cX2_init 65 = .ok (.putfield 33, 3) := by decide +kernel
theorem dX2_init_68 : decode cX2_init 68 = .ok (.return_, 1) := by decide +kernel
theorem dX2_copyFrom_0 : decode cX2_copyFrom 0 = .ok (.aload_n 0, 1) := by decide +kernel
theorem dX2_copyFrom_1 : decode cX2_copyFrom 1 = .ok (.aload_n 1, 1) := by decide +kernel
theorem dX2_copyFrom_2 : decode cX2_copyFrom 2 = .ok (.getfield 36, 3) := by decide +kernel
theorem dX2_copyFrom_5 : decode cX2_copyFrom 5 = .ok (.putfield 36, 3) := by decide +kernel
theorem dX2_copyFrom_8 : decode cX2_copyFrom 8 = .ok (.aload_n 0, 1) := by decide +kernel
theorem dX2_copyFrom_9 : decode cX2_copyFrom 9 = .ok (.aload_n 1, 1) := by decide +kernel
theorem dX2_copyFrom_10 : decode cX2_copyFrom 10 = .ok (.getfield 40, 3) := by decide +kernel
theorem dX2_copyFrom_13 : decode cX2_copyFrom 13 = .ok (.putfield 40, 3) := by decide +kernel
theorem dX2_copyFrom_16 : decode cX2_copyFrom 16 = .ok (.aload_n 1, 1) := by decide +kernel
theorem dX2_copyFrom_17 : decode cX2_copyFrom 17 = .ok (.getfield 9, 3) := by decide +kernel
theorem dX2_copyFrom_20 : decode cX2_copyFrom 20 = .ok (.iconst 0, 1) := by decide +kernel
theorem dX2_copyFrom_21 : decode cX2_copyFrom 21 = .ok (.aload_n 0, 1) := by decide +kernel
theorem dX2_copyFrom_22 : decode cX2_copyFrom 22 = .ok (.getfield 9, 3) := by decide +kernel
theorem dX2_copyFrom_25 : decode cX2_copyFrom 25 = .ok (.iconst 0, 1) := by decide +kernel
theorem dX2_copyFrom_26 : decode cX2_copyFrom 26 = .ok (.bipush 30, 2) := by decide +kernel
theorem dX2_copyFrom_28 : decode cX2_copyFrom 28 = .ok (.invokestatic 43, 3) := by decide +kernel
theorem dX2_copyFrom_31 : decode cX2_copyFrom 31 = .ok (.aload_n 1, 1) := by decide +kernel
theorem dX2_copyFrom_32 : decode cX2_copyFrom 32 = .ok (.getfield 15, 3) := by decide +kernel
theorem dX2_copyFrom_35 : decode cX2_copyFrom 35 = .ok (.iconst 0, 1) := by decide +kernel
theorem dX2_copyFrom_36 : decode cX2_copyFrom 36 = .ok (.aload_n 0, 1) := by decide +kernel
theorem dX2_copyFrom_37 : decode cX2_copyFrom 37 = .ok (.getfield 15, 3) := by decide +kernel
theorem dX2_copyFrom_40 : decode cX2_copyFrom 40 = .ok (.iconst 0, 1) := by decide +kernel
theorem dX2_copyFrom_41 : decode cX2_copyFrom 41 = .ok (.bipush 30, 2) := by decide +kernel
theorem dX2_copyFrom_43 : decode cX2_copyFrom 43 = .ok (.invokestatic 43, 3) := by decide +kernel
theorem dX2_copyFrom_46 : decode cX2_copyFrom 46 = .ok (.aload_n 1, 1) := by decide +kernel
theorem dX2_copyFrom_47 : decode cX2_copyFrom 47 = .ok (.getfield 18, 3) := by decide +kernel
theorem dX2_copyFrom_50 : decode cX2_copyFrom 50 = .ok (.iconst 0, 1) := by decide +kernel
theorem dX2_copyFrom_51 : decode cX2_copyFrom 51 = .ok (.aload_n 0, 1) := by decide +kernel
theorem dX2_copyFrom_52 : decode cX2_copyFrom 52 = .ok (.getfield 18, 3) := by decide +kernel
theorem dX2_copyFrom_55 : decode cX2_copyFrom 55 = .ok (.iconst 0, 1) := by decide +kernel
theorem dX2_copyFrom_56 : decode cX2_copyFrom 56 = .ok (.bipush 30, 2) := by decide +kernel
theorem dX2_copyFrom_58 : decode cX2_copyFrom 58 = .ok (.invokestatic 43, 3) := by decide +kernel
theorem dX2_copyFrom_61 : decode cX2_copyFrom 61 = .ok (.aload_n 1, 1) := by decide +kernel
theorem dX2_copyFrom_62 : decode cX2_copyFrom 62 = .ok (.getfield 21, 3) := by decide +kernel
theorem dX2_copyFrom_65 : decode cX2_copyFrom 65 = .ok (.iconst 0, 1) := by decide +kernel
theorem dX2_copyFrom_66 : decode cX2_copyFrom 66 = .ok (.aload_n 0, 1) := by decide +kernel
theorem dX2_copyFrom_67 : decode cX2_copyFrom 67 = .ok (.getfield 21, 3) := by decide +kernel
theorem dX2_copyFrom_70 : decode cX2_copyFrom 70 = .ok (.iconst 0, 1) := by decide +kernel
theorem dX2_copyFrom_71 : decode cX2_copyFrom 71 = .ok (.bipush 30, 2) := by decide +kernel
theorem dX2_copyFrom_73 : decode cX2_copyFrom 73 = .ok (.invokestatic 43, 3) := by decide +kernel
theorem dX2_copyFrom_76 : decode cX2_copyFrom 76 = .ok (.aload_n 1, 1) := by decide +kernel
theorem dX2_copyFrom_77 : decode cX2_copyFrom 77 = .ok (.getfield 24, 3) := by decide +kernel
theorem dX2_copyFrom_80 : decode cX2_copyFrom 80 = .ok (.iconst 0, 1) := by decide +kernel
theorem dX2_copyFrom_81 : decode cX2_copyFrom 81 = .ok (.aload_n 0, 1) := by decide +kernel
theorem dX2_copyFrom_82 : decode cX2_copyFrom 82 = .ok (.getfield 24, 3) := by decide +kernel
theorem dX2_copyFrom_85 : decode cX2_copyFrom 85 = .ok (.iconst 0, 1) := by decide +kernel
theorem dX2_copyFrom_86 : decode cX2_copyFrom 86 = .ok (.bipush 30, 2) := by decide +kernel
theorem dX2_copyFrom_88 : decode cX2_copyFrom 88 = .ok (.invokestatic 43, 3) := by decide +kernel
theorem dX2_copyFrom_91 : decode cX2_copyFrom 91 = .ok (.aload_n 1, 1) := by decide +kernel
theorem dX2_copyFrom_92 : decode cX2_copyFrom 92 = .ok (.getfield 27, 3) := by decide +kernel
theorem dX2_copyFrom_95 : decode cX2_copyFrom 95 = .ok (.iconst 0, 1) := by decide +kernel
theorem dX2_copyFrom_96 : decode cX2_copyFrom 96 = .ok (.aload_n 0, 1) := by decide +kernel
theorem dX2_copyFrom_97 : decode cX2_copyFrom 97 = .ok (.getfield 27, 3) := by decide +kernel
theorem dX2_copyFrom_100 : decode cX2_copyFrom 100 = .ok (.iconst 0, 1) := by decide +kernel
theorem dX2_copyFrom_101 : decode cX2_copyFrom 101 = .ok (.bipush 30, 2) := by decide +kernel
theorem dX2_copyFrom_103 : decode cX2_copyFrom 103 = .ok (.invokestatic 43, 3) := by decide +kernel
theorem dX2_copyFrom_106 : decode cX2_copyFrom 106 = .ok (.aload_n 1, 1) := by decide +kernel
theorem dX2_copyFrom_107 : decode cX2_copyFrom 107 = .ok (.getfield 30, 3) := by decide +kernel
theorem dX2_copyFrom_110 : decode cX2_copyFrom 110 = .ok (.iconst 0, 1) := by decide +kernel
theorem dX2_copyFrom_111 : decode cX2_copyFrom 111 = .ok (.aload_n 0, 1) := by decide +kernel
theorem dX2_copyFrom_112 : decode cX2_copyFrom 112 = .ok (.getfield 30, 3) := by decide +kernel
theorem dX2_copyFrom_115 : decode cX2_copyFrom 115 = .ok (.iconst 0, 1) := by decide +kernel
theorem dX2_copyFrom_116 : decode cX2_copyFrom 116 = .ok (.bipush 30, 2) := by decide +kernel
theorem dX2_copyFrom_118 : decode cX2_copyFrom 118 = .ok (.invokestatic 43, 3) := by decide +kernel
theorem dX2_copyFrom_121 : decode cX2_copyFrom 121 = .ok (.aload_n 1, 1) := by decide +kernel
theorem dX2_copyFrom_122 : decode cX2_copyFrom 122 = .ok (.getfield 33, 3) := by decide +kernel
theorem dX2_copyFrom_125 : decode cX2_copyFrom 125 = .ok (.iconst 0, 1) := by decide +kernel
theorem dX2_copyFrom_126 : decode cX2_copyFrom 126 = .ok (.aload_n 0, 1) := by decide +kernel
theorem dX2_copyFrom_127 : decode cX2_copyFrom 127 = .ok (.getfield 33, 3) := by decide +kernel
theorem dX2_copyFrom_130 : decode cX2_copyFrom 130 = .ok (.iconst 0, 1) := by decide +kernel
theorem dX2_copyFrom_131 : decode cX2_copyFrom 131 = .ok (.bipush 30, 2) := by decide +kernel
theorem dX2_copyFrom_133 : decode cX2_copyFrom 133 = .ok (.invokestatic 43, 3) := by decide +kernel
theorem dX2_copyFrom_136 : decode cX2_copyFrom 136 = .ok (.return_, 1) := by decide +kernel
theorem dX2_has_0 : decode cX2_has 0 = .ok (.iload_n 1, 1) := by decide +kernel
theorem dX2_has_1 : decode cX2_has 1 = .ok (.ifCond .lt 15, 3) := by decide +kernel
theorem dX2_has_4 : decode cX2_has 4 = .ok (.iload_n 1, 1) := by decide +kernel
theorem dX2_has_5 : decode cX2_has 5 = .ok (.aload_n 0, 1) := by decide +kernel
theorem dX2_has_6 : decode cX2_has 6 = .ok (.getfield 36, 3) := by decide +kernel
theorem dX2_has_9 : decode cX2_has 9 = .ok (.if_icmp .ge 7, 3) := by decide +kernel
theorem dX2_has_12 : decode cX2_has 12 = .ok (.iconst 1, 1) := by decide +kernel
theorem dX2_has_13 : decode cX2_has 13 = .ok (.goto 4, 3) := by decide +kernel
theorem dX2_has_16 : decode cX2_has 16 = .ok (.iconst 0, 1) := by decide +kernel
theorem dX2_has_17 : decode cX2_has 17 = .ok (.ireturn, 1) := by decide +kernel
theorem dX2_isOpen_0 : decode cX2_isOpen 0 = .ok (.aload_n 0, 1) := by decide +kernel
theorem dX2_isOpen_1 : decode cX2_isOpen 1 = .ok (.getfield 18, 3) := by decide +kernel
theorem dX2_isOpen_4 : decode cX2_isOpen 4 = .ok (.iload_n 1, 1) := by decide +kernel
theorem dX2_isOpen_5 : decode cX2_isOpen 5 = .ok (.iaload, 1) := by decide +kernel
theorem dX2_isOpen_6 : decode cX2_isOpen 6 = .ok (.ifCond .eq 13, 3) := by decide +kernel
theorem dX2_isOpen_9 : decode cX2_isOpen 9 = .ok (.aload_n 0, 1) := by decide +kernel
theorem dX2_isOpen_10 : decode cX2_isOpen 10 = .ok (.getfield 18, 3) := by decide +kernel
theorem dX2_isOpen_13 : decode cX2_isOpen 13 = .ok (.iload_n 1, 1) := by decide +kernel
theorem dX2_isOpen_14 : decode cX2_isOpen 14 = .ok (.iaload, 1) := by decide +kernel
theorem dX2_isOpen_15 : decode cX2_isOpen 15 = .ok (.iconst 1, 1) := by decide +kernel
theorem dX2_isOpen_16 : decode cX2_isOpen 16 = .ok (.if_icmp .ne 7, 3) := by decide +kernel
theorem dX2_isOpen_19 : decode cX2_isOpen 19 = .ok (.iconst 1, 1) := by decide +kernel
theorem dX2_isOpen_20 : decode cX2_isOpen 20 = .ok (.goto 4, 3) := by decide +kernel
theorem dX2_isOpen_23 : decode cX2_isOpen 23 = .ok (.iconst 0, 1) := by decide +kernel
theorem dX2_isOpen_24 : decode cX2_isOpen 24 = .ok (.ireturn, 1) := by decide +kernel
theorem dX2_append_0 : decode cX2_append 0 = .ok (.aload_n 0, 1) := by decide +kernel
theorem dX2_append_1 : decode cX2_append 1 = .ok (.getfield 36, 3) := by decide +kernel
theorem dX2_append_4 : decode cX2_append 4 = .ok (.istore 4, 2) := by decide +kernel
theorem dX2_append_6 : decode cX2_append 6 = .ok (.aload_n 0, 1) := by decide +kernel
theorem dX2_append_7 : decode cX2_append 7 = .ok (.getfield 9, 3) := by decide +kernel
theorem dX2_append_10 : decode cX2_append 10 = .ok (.iload 4, 2) := by decide +kernel
theorem dX2_append_12 : decode cX2_append 12 = .ok (.iload_n 1, 1) := by decide +kernel
theorem dX2_append_13 : decode cX2_append 13 = .ok (.iastore, 1) := by decide +kernel
theorem dX2_append_14 : decode cX2_append 14 = .ok (.aload_n 0, 1) := by decide +kernel
theorem dX2_append_15 : decode cX2_append 15 = .ok (.getfield 15, 3) := by decide +kernel
theorem dX2_append_18 : decode cX2_append 18 = .ok (.iload 4, 2) := by decide +kernel
theorem dX2_append_20 : decode cX2_append 20 = .ok (.iload_n 2, 1) := by decide +kernel
theorem dX2_append_21 : decode cX2_append 21 = .ok (.iastore, 1) := by decide +kernel
theorem dX2_append_22 : decode cX2_append 22 = .ok (.aload_n 0, 1) := by decide +kernel
theorem dX2_append_23 : decode cX2_append 23 = .ok (.getfield 18, 3) := by decide +kernel
theorem dX2_append_26 : decode cX2_append 26 = .ok (.iload 4, 2) := by decide +kernel
theorem dX2_append_28 : decode cX2_append 28 = .ok (.iconst 0, 1) := by decide +kernel
theorem dX2_append_29 : decode cX2_append 29 = .ok (.iastore, 1) := by decide +kernel
theorem dX2_append_30 : decode cX2_append 30 = .ok (.aload_n 0, 1) := by decide +kernel
theorem dX2_append_31 : decode cX2_append 31 = .ok (.getfield 21, 3) := by decide +kernel
theorem dX2_append_34 : decode cX2_append 34 = .ok (.iload 4, 2) := by decide +kernel
theorem dX2_append_36 : decode cX2_append 36 = .ok (.iconst 0, 1) := by decide +kernel
theorem dX2_append_37 : decode cX2_append 37 = .ok (.iastore, 1) := by decide +kernel
theorem dX2_append_38 : decode cX2_append 38 = .ok (.aload_n 0, 1) := by decide +kernel
theorem dX2_append_39 : decode cX2_append 39 = .ok (.getfield 24, 3) := by decide +kernel
theorem dX2_append_42 : decode cX2_append 42 = .ok (.iload 4, 2) := by decide +kernel
theorem dX2_append_44 : decode cX2_append 44 = .ok (.iload_n 3, 1) := by decide +kernel
theorem dX2_append_45 : decode cX2_append 45 = .ok (.iastore, 1) := by decide +kernel
theorem dX2_append_46 : decode cX2_append 46 = .ok (.aload_n 0, 1) := by decide +kernel
theorem dX2_append_47 : decode cX2_append 47 = .ok (.getfield 27, 3) := by decide +kernel
theorem dX2_append_50 : decode cX2_append 50 = .ok (.iload 4, 2) := by decide +kernel
theorem dX2_append_52 : decode cX2_append 52 = .ok (.iconst (-1), 1) := by decide +kernel
theorem dX2_append_53 : decode cX2_append 53 = .ok (.iastore, 1) := by decide +kernel
theorem dX2_append_54 : decode cX2_append 54 = .ok (.aload_n 0, 1) := by decide +kernel
theorem dX2_append_55 : decode cX2_append 55 = .ok (.getfield 30, 3) := by decide +kernel
theorem dX2_append_58 : decode cX2_append 58 = .ok (.iload 4, 2) := by decide +kernel
theorem dX2_append_60 : decode cX2_append 60 = .ok (.iconst 0, 1) := by decide +kernel
theorem dX2_append_61 : decode cX2_append 61 = .ok (.iastore, 1) := by decide +kernel
theorem dX2_append_62 : decode cX2_append 62 = .ok (.aload_n 0, 1) := by decide +kernel
theorem dX2_append_63 : decode cX2_append 63 = .ok (.dup, 1) := by decide +kernel
theorem dX2_append_64 : decode cX2_append 64 = .ok (.getfield 36, 3) := by decide +kernel
theorem dX2_append_67 : decode cX2_append 67 = .ok (.iconst 1, 1) := by decide +kernel
theorem dX2_append_68 : decode cX2_append 68 = .ok (.iadd, 1) := by decide +kernel
theorem dX2_append_69 : decode cX2_append 69 = .ok (.putfield 36, 3) := by decide +kernel
theorem dX2_append_72 : decode cX2_append 72 = .ok (.aload_n 0, 1) := by decide +kernel
theorem dX2_append_73 : decode cX2_append 73 = .ok (.iload 4, 2) := by decide +kernel
theorem dX2_append_75 : decode cX2_append 75 = .ok (.invokevirtual 49, 3) := by decide +kernel
theorem dX2_append_78 : decode cX2_append 78 = .ok (.iload 4, 2) := by decide +kernel
theorem dX2_append_80 : decode cX2_append 80 = .ok (.ireturn, 1) := by decide +kernel
theorem dX2_enqueue_0 : decode cX2_enqueue 0 = .ok (.aload_n 0, 1) := by decide +kernel
theorem dX2_enqueue_1 : decode cX2_enqueue 1 = .ok (.getfield 40, 3) := by decide +kernel
theorem dX2_enqueue_4 : decode cX2_enqueue 4 = .ok (.istore_n 2, 1) := by decide +kernel
theorem dX2_enqueue_5 : decode cX2_enqueue 5 = .ok (.iload_n 2, 1) := by decide +kernel
theorem dX2_enqueue_6 : decode cX2_enqueue 6 = .ok (.ifCond .le 45, 3) := by decide +kernel
theorem dX2_enqueue_9 : decode cX2_enqueue 9 = .ok (.aload_n 0, 1) := by decide +kernel
theorem dX2_enqueue_10 : decode cX2_enqueue 10 = .ok (.getfield 15, 3) := by decide +kernel
theorem dX2_enqueue_13 : decode cX2_enqueue 13 = .ok (.aload_n 0, 1) := by decide +kernel
theorem dX2_enqueue_14 : decode cX2_enqueue 14 = .ok (.getfield 33, 3) := by decide +kernel
theorem dX2_enqueue_17 : decode cX2_enqueue 17 = .ok (.iload_n 2, 1) := by decide +kernel
theorem dX2_enqueue_18 : decode cX2_enqueue 18 = .ok (.iconst 1, 1) := by decide +kernel
theorem dX2_enqueue_19 : decode cX2_enqueue 19 = .ok (.isub, 1) := by decide +kernel
theorem dX2_enqueue_20 : decode cX2_enqueue 20 = .ok (.iaload, 1) := by decide +kernel
theorem dX2_enqueue_21 : decode cX2_enqueue 21 = .ok (.iaload, 1) := by decide +kernel
theorem dX2_enqueue_22 : decode cX2_enqueue 22 = .ok (.aload_n 0, 1) := by decide +kernel
theorem dX2_enqueue_23 : decode cX2_enqueue 23 = .ok (.getfield 15, 3) := by decide +kernel
theorem dX2_enqueue_26 : decode cX2_enqueue 26 = .ok (.iload_n 1, 1) := by decide +kernel
theorem dX2_enqueue_27 : decode cX2_enqueue 27 = .ok (.iaload, 1) := by decide +kernel
theorem dX2_enqueue_28 : decode cX2_enqueue 28 = .ok (.if_icmp .le 23, 3) := by decide +kernel
theorem dX2_enqueue_31 : decode cX2_enqueue 31 = .ok (.aload_n 0, 1) := by decide +kernel
theorem dX2_enqueue_32 : decode cX2_enqueue 32 = .ok (.getfield 33, 3) := by decide +kernel
theorem dX2_enqueue_35 : decode cX2_enqueue 35 = .ok (.iload_n 2, 1) := by decide +kernel
theorem dX2_enqueue_36 : decode cX2_enqueue 36 = .ok (.aload_n 0, 1) := by decide +kernel
theorem dX2_enqueue_37 : decode cX2_enqueue 37 = .ok (.getfield 33, 3) := by decide +kernel
theorem dX2_enqueue_40 : decode cX2_enqueue 40 = .ok (.iload_n 2, 1) := by decide +kernel
theorem dX2_enqueue_41 : decode cX2_enqueue 41 = .ok (.iconst 1, 1) := by decide +kernel
theorem dX2_enqueue_42 : decode cX2_enqueue 42 = .ok (.isub, 1) := by decide +kernel
theorem dX2_enqueue_43 : decode cX2_enqueue 43 = .ok (.iaload, 1) := by decide +kernel
theorem dX2_enqueue_44 : decode cX2_enqueue 44 = .ok (.iastore, 1) := by decide +kernel
theorem dX2_enqueue_45 : decode cX2_enqueue 45 = .ok (.iinc 2 (-1), 3) := by decide +kernel
theorem dX2_enqueue_48 : decode cX2_enqueue 48 = .ok (.goto (-43), 3) := by decide +kernel
theorem dX2_enqueue_51 : decode cX2_enqueue 51 = .ok (.aload_n 0, 1) := by decide +kernel
theorem dX2_enqueue_52 : decode cX2_enqueue 52 = .ok (.getfield 33, 3) := by decide +kernel
theorem dX2_enqueue_55 : decode cX2_enqueue 55 = .ok (.iload_n 2, 1) := by decide +kernel
theorem dX2_enqueue_56 : decode cX2_enqueue 56 = .ok (.iload_n 1, 1) := by decide +kernel
theorem dX2_enqueue_57 : decode cX2_enqueue 57 = .ok (.iastore, 1) := by decide +kernel
theorem dX2_enqueue_58 : decode cX2_enqueue 58 = .ok (.aload_n 0, 1) := by decide +kernel
theorem dX2_enqueue_59 : decode cX2_enqueue 59 = .ok (.dup, 1) := by decide +kernel
theorem dX2_enqueue_60 : decode cX2_enqueue 60 = .ok (.getfield 40, 3) := by decide +kernel
theorem dX2_enqueue_63 : decode cX2_enqueue 63 = .ok (.iconst 1, 1) := by decide +kernel
theorem dX2_enqueue_64 : decode cX2_enqueue 64 = .ok (.iadd, 1) := by decide +kernel
theorem dX2_enqueue_65 : decode cX2_enqueue 65 = .ok (.putfield 40, 3) := by decide +kernel
theorem dX2_enqueue_68 : decode cX2_enqueue 68 = .ok (.return_, 1) := by decide +kernel
theorem dX2_dequeue_0 : decode cX2_dequeue 0 = .ok (.iconst 0, 1) := by decide +kernel
theorem dX2_dequeue_1 : decode cX2_dequeue 1 = .ok (.istore_n 2, 1) := by decide +kernel
theorem dX2_dequeue_2 : decode cX2_dequeue 2 = .ok (.iconst 0, 1) := by decide +kernel
theorem dX2_dequeue_3 : decode cX2_dequeue 3 = .ok (.istore_n 3, 1) := by decide +kernel
theorem dX2_dequeue_4 : decode cX2_dequeue 4 = .ok (.iload_n 3, 1) := by decide +kernel
theorem dX2_dequeue_5 : decode cX2_dequeue 5 = .ok (.aload_n 0, 1) := by decide +kernel
theorem dX2_dequeue_6 : decode cX2_dequeue 6 = .ok (.getfield 40, 3) := by decide +kernel
theorem dX2_dequeue_9 : decode cX2_dequeue 9 = .ok (.if_icmp .ge 34, 3) := by decide +kernel
theorem dX2_dequeue_12 : decode cX2_dequeue 12 = .ok (.aload_n 0, 1) := by decide +kernel
theorem dX2_dequeue_13 : decode cX2_dequeue 13 = .ok (.getfield 33, 3) := by decide +kernel
theorem dX2_dequeue_16 : decode cX2_dequeue 16 = .ok (.iload_n 3, 1) := by decide +kernel
theorem dX2_dequeue_17 : decode cX2_dequeue 17 = .ok (.iaload, 1) := by decide +kernel
theorem dX2_dequeue_18 : decode cX2_dequeue 18 = .ok (.iload_n 1, 1) := by decide +kernel
theorem dX2_dequeue_19 : decode cX2_dequeue 19 = .ok (.if_icmp .eq 18, 3) := by decide +kernel
theorem dX2_dequeue_22 : decode cX2_dequeue 22 = .ok (.aload_n 0, 1) := by decide +kernel
theorem dX2_dequeue_23 : decode cX2_dequeue 23 = .ok (.getfield 33, 3) := by decide +kernel
theorem dX2_dequeue_26 : decode cX2_dequeue 26 = .ok (.iload_n 2, 1) := by decide +kernel
theorem dX2_dequeue_27 : decode cX2_dequeue 27 = .ok (.aload_n 0, 1) := by decide +kernel
theorem dX2_dequeue_28 : decode cX2_dequeue 28 = .ok (.getfield 33, 3) := by decide +kernel
theorem dX2_dequeue_31 : decode cX2_dequeue 31 = .ok (.iload_n 3, 1) := by decide +kernel
theorem dX2_dequeue_32 : decode cX2_dequeue 32 = .ok (.iaload, 1) := by decide +kernel
theorem dX2_dequeue_33 : decode cX2_dequeue 33 = .ok (.iastore, 1) := by decide +kernel
theorem dX2_dequeue_34 : decode cX2_dequeue 34 = .ok (.iinc 2 1, 3) := by decide +kernel
theorem dX2_dequeue_37 : decode cX2_dequeue 37 = .ok (.iinc 3 1, 3) := by decide +kernel
theorem dX2_dequeue_40 : decode cX2_dequeue 40 = .ok (.goto (-36), 3) := by decide +kernel
theorem dX2_dequeue_43 : decode cX2_dequeue 43 = .ok (.aload_n 0, 1) := by decide +kernel
theorem dX2_dequeue_44 : decode cX2_dequeue 44 = .ok (.iload_n 2, 1) := by decide +kernel
theorem dX2_dequeue_45 : decode cX2_dequeue 45 = .ok (.putfield 40, 3) := by decide +kernel
theorem dX2_dequeue_48 : decode cX2_dequeue 48 = .ok (.return_, 1) := by decide +kernel
theorem dX2_close_0 : decode cX2_close 0 = .ok (.aload_n 0, 1) := by decide +kernel
theorem dX2_close_1 : decode cX2_close 1 = .ok (.getfield 21, 3) := by decide +kernel
theorem dX2_close_4 : decode cX2_close 4 = .ok (.iload_n 1, 1) := by decide +kernel
theorem dX2_close_5 : decode cX2_close 5 = .ok (.iaload, 1) := by decide +kernel
theorem dX2_close_6 : decode cX2_close 6 = .ok (.istore_n 3, 1) := by decide +kernel
theorem dX2_close_7 : decode cX2_close 7 = .ok (.aload_n 0, 1) := by decide +kernel
theorem dX2_close_8 : decode cX2_close 8 = .ok (.getfield 21, 3) := by decide +kernel
theorem dX2_close_11 : decode cX2_close 11 = .ok (.iload_n 1, 1) := by decide +kernel
theorem dX2_close_12 : decode cX2_close 12 = .ok (.iconst 0, 1) := by decide +kernel
theorem dX2_close_13 : decode cX2_close 13 = .ok (.iastore, 1) := by decide +kernel
theorem dX2_close_14 : decode cX2_close 14 = .ok (.aload_n 0, 1) := by decide +kernel
theorem dX2_close_15 : decode cX2_close 15 = .ok (.getfield 18, 3) := by decide +kernel
theorem dX2_close_18 : decode cX2_close 18 = .ok (.iload_n 1, 1) := by decide +kernel
theorem dX2_close_19 : decode cX2_close 19 = .ok (.iload_n 2, 1) := by decide +kernel
theorem dX2_close_20 : decode cX2_close 20 = .ok (.iastore, 1) := by decide +kernel
theorem dX2_close_21 : decode cX2_close 21 = .ok (.aload_n 0, 1) := by decide +kernel
theorem dX2_close_22 : decode cX2_close 22 = .ok (.iload_n 1, 1) := by decide +kernel
theorem dX2_close_23 : decode cX2_close 23 = .ok (.invokevirtual 53, 3) := by decide +kernel
theorem dX2_close_26 : decode cX2_close 26 = .ok (.iload_n 3, 1) := by decide +kernel
theorem dX2_close_27 : decode cX2_close 27 = .ok (.ireturn, 1) := by decide +kernel
theorem dX2_heldOf_0 : decode cX2_heldOf 0 = .ok (.iconst 0, 1) := by decide +kernel
theorem dX2_heldOf_1 : decode cX2_heldOf 1 = .ok (.istore_n 2, 1) := by decide +kernel
theorem dX2_heldOf_2 : decode cX2_heldOf 2 = .ok (.iconst 0, 1) := by decide +kernel
theorem dX2_heldOf_3 : decode cX2_heldOf 3 = .ok (.istore_n 3, 1) := by decide +kernel
theorem dX2_heldOf_4 : decode cX2_heldOf 4 = .ok (.iload_n 3, 1) := by decide +kernel
theorem dX2_heldOf_5 : decode cX2_heldOf 5 = .ok (.aload_n 0, 1) := by decide +kernel
theorem dX2_heldOf_6 : decode cX2_heldOf 6 = .ok (.getfield 36, 3) := by decide +kernel
theorem dX2_heldOf_9 : decode cX2_heldOf 9 = .ok (.if_icmp .ge 28, 3) := by decide +kernel
theorem dX2_heldOf_12 : decode cX2_heldOf 12 = .ok (.aload_n 0, 1) := by decide +kernel
theorem dX2_heldOf_13 : decode cX2_heldOf 13 = .ok (.getfield 9, 3) := by decide +kernel
theorem dX2_heldOf_16 : decode cX2_heldOf 16 = .ok (.iload_n 3, 1) := by decide +kernel
theorem dX2_heldOf_17 : decode cX2_heldOf 17 = .ok (.iaload, 1) := by decide +kernel
theorem dX2_heldOf_18 : decode cX2_heldOf 18 = .ok (.iload_n 1, 1) := by decide +kernel
theorem dX2_heldOf_19 : decode cX2_heldOf 19 = .ok (.if_icmp .ne 12, 3) := by decide +kernel
theorem dX2_heldOf_22 : decode cX2_heldOf 22 = .ok (.iload_n 2, 1) := by decide +kernel
theorem dX2_heldOf_23 : decode cX2_heldOf 23 = .ok (.aload_n 0, 1) := by decide +kernel
theorem dX2_heldOf_24 : decode cX2_heldOf 24 = .ok (.getfield 21, 3) := by decide +kernel
theorem dX2_heldOf_27 : decode cX2_heldOf 27 = .ok (.iload_n 3, 1) := by decide +kernel
theorem dX2_heldOf_28 : decode cX2_heldOf 28 = .ok (.iaload, 1) := by decide +kernel
theorem dX2_heldOf_29 : decode cX2_heldOf 29 = .ok (.iadd, 1) := by decide +kernel
theorem dX2_heldOf_30 : decode cX2_heldOf 30 = .ok (.istore_n 2, 1) := by decide +kernel
theorem dX2_heldOf_31 : decode cX2_heldOf 31 = .ok (.iinc 3 1, 3) := by decide +kernel
theorem dX2_heldOf_34 : decode cX2_heldOf 34 = .ok (.goto (-30), 3) := by decide +kernel
theorem dX2_heldOf_37 : decode cX2_heldOf 37 = .ok (.iload_n 2, 1) := by decide +kernel
theorem dX2_heldOf_38 : decode cX2_heldOf 38 = .ok (.ireturn, 1) := by decide +kernel
theorem dX2_countOf_0 : decode cX2_countOf 0 = .ok (.iconst 0, 1) := by decide +kernel
theorem dX2_countOf_1 : decode cX2_countOf 1 = .ok (.istore_n 3, 1) := by decide +kernel
theorem dX2_countOf_2 : decode cX2_countOf 2 = .ok (.iconst 0, 1) := by decide +kernel
theorem dX2_countOf_3 : decode cX2_countOf 3 = .ok (.istore 4, 2) := by decide +kernel
theorem dX2_countOf_5 : decode cX2_countOf 5 = .ok (.iload 4, 2) := by decide +kernel
theorem dX2_countOf_7 : decode cX2_countOf 7 = .ok (.aload_n 0, 1) := by decide +kernel
theorem dX2_countOf_8 : decode cX2_countOf 8 = .ok (.getfield 36, 3) := by decide +kernel
theorem dX2_countOf_11 : decode cX2_countOf 11 = .ok (.if_icmp .ge 34, 3) := by decide +kernel
theorem dX2_countOf_14 : decode cX2_countOf 14 = .ok (.aload_n 0, 1) := by decide +kernel
theorem dX2_countOf_15 : decode cX2_countOf 15 = .ok (.getfield 9, 3) := by decide +kernel
theorem dX2_countOf_18 : decode cX2_countOf 18 = .ok (.iload 4, 2) := by decide +kernel
theorem dX2_countOf_20 : decode cX2_countOf 20 = .ok (.iaload, 1) := by decide +kernel
theorem dX2_countOf_21 : decode cX2_countOf 21 = .ok (.iload_n 1, 1) := by decide +kernel
theorem dX2_countOf_22 : decode cX2_countOf 22 = .ok (.if_icmp .ne 17, 3) := by decide +kernel
theorem dX2_countOf_25 : decode cX2_countOf 25 = .ok (.aload_n 0, 1) := by decide +kernel
theorem dX2_countOf_26 : decode cX2_countOf 26 = .ok (.getfield 18, 3) := by decide +kernel
theorem dX2_countOf_29 : decode cX2_countOf 29 = .ok (.iload 4, 2) := by decide +kernel
theorem dX2_countOf_31 : decode cX2_countOf 31 = .ok (.iaload, 1) := by decide +kernel
theorem dX2_countOf_32 : decode cX2_countOf 32 = .ok (.iload_n 2, 1) := by decide +kernel
theorem dX2_countOf_33 : decode cX2_countOf 33 = .ok (.if_icmp .ne 6, 3) := by decide +kernel
theorem dX2_countOf_36 : decode cX2_countOf 36 = .ok (.iinc 3 1, 3) := by decide +kernel
theorem dX2_countOf_39 : decode cX2_countOf 39 = .ok (.iinc 4 1, 3) := by decide +kernel
theorem dX2_countOf_42 : decode cX2_countOf 42 = .ok (.goto (-37), 3) := by decide +kernel
theorem dX2_countOf_45 : decode cX2_countOf 45 = .ok (.iload_n 3, 1) := by decide +kernel
theorem dX2_countOf_46 : decode cX2_countOf 46 = .ok (.ireturn, 1) := by decide +kernel
theorem dX2_countIn_0 : decode cX2_countIn 0 = .ok (.iconst 0, 1) := by decide +kernel
theorem dX2_countIn_1 : decode cX2_countIn 1 = .ok (.istore_n 2, 1) := by decide +kernel
theorem dX2_countIn_2 : decode cX2_countIn 2 = .ok (.iconst 0, 1) := by decide +kernel
theorem dX2_countIn_3 : decode cX2_countIn 3 = .ok (.istore_n 3, 1) := by decide +kernel
theorem dX2_countIn_4 : decode cX2_countIn 4 = .ok (.iload_n 3, 1) := by decide +kernel
theorem dX2_countIn_5 : decode cX2_countIn 5 = .ok (.aload_n 0, 1) := by decide +kernel
theorem dX2_countIn_6 : decode cX2_countIn 6 = .ok (.getfield 36, 3) := by decide +kernel
theorem dX2_countIn_9 : decode cX2_countIn 9 = .ok (.if_icmp .ge 22, 3) := by decide +kernel
theorem dX2_countIn_12 : decode cX2_countIn 12 = .ok (.aload_n 0, 1) := by decide +kernel
theorem dX2_countIn_13 : decode cX2_countIn 13 = .ok (.getfield 18, 3) := by decide +kernel
theorem dX2_countIn_16 : decode cX2_countIn 16 = .ok (.iload_n 3, 1) := by decide +kernel
theorem dX2_countIn_17 : decode cX2_countIn 17 = .ok (.iaload, 1) := by decide +kernel
theorem dX2_countIn_18 : decode cX2_countIn 18 = .ok (.iload_n 1, 1) := by decide +kernel
theorem dX2_countIn_19 : decode cX2_countIn 19 = .ok (.if_icmp .ne 6, 3) := by decide +kernel
theorem dX2_countIn_22 : decode cX2_countIn 22 = .ok (.iinc 2 1, 3) := by decide +kernel
theorem dX2_countIn_25 : decode cX2_countIn 25 = .ok (.iinc 3 1, 3) := by decide +kernel
theorem dX2_countIn_28 : decode cX2_countIn 28 = .ok (.goto (-24), 3) := by decide +kernel
theorem dX2_countIn_31 : decode cX2_countIn 31 = .ok (.iload_n 2, 1) := by decide +kernel
theorem dX2_countIn_32 : decode cX2_countIn 32 = .ok (.ireturn, 1) := by decide +kernel
theorem dX2_hasFault_0 : decode cX2_hasFault 0 = .ok (.iconst 0, 1) := by decide +kernel
theorem dX2_hasFault_1 : decode cX2_hasFault 1 = .ok (.istore_n 3, 1) := by decide +kernel
theorem dX2_hasFault_2 : decode cX2_hasFault 2 = .ok (.iload_n 3, 1) := by decide +kernel
theorem dX2_hasFault_3 : decode cX2_hasFault 3 = .ok (.aload_n 0, 1) := by decide +kernel
theorem dX2_hasFault_4 : decode cX2_hasFault 4 = .ok (.getfield 36, 3) := by decide +kernel
theorem dX2_hasFault_7 : decode cX2_hasFault 7 = .ok (.if_icmp .ge 41, 3) := by decide +kernel
theorem dX2_hasFault_10 : decode cX2_hasFault 10 = .ok (.aload_n 0, 1) := by decide +kernel
theorem dX2_hasFault_11 : decode cX2_hasFault 11 = .ok (.getfield 9, 3) := by decide +kernel
theorem dX2_hasFault_14 : decode cX2_hasFault 14 = .ok (.iload_n 3, 1) := by decide +kernel
theorem dX2_hasFault_15 : decode cX2_hasFault 15 = .ok (.iaload, 1) := by decide +kernel
theorem dX2_hasFault_16 : decode cX2_hasFault 16 = .ok (.iload_n 1, 1) := by decide +kernel
theorem dX2_hasFault_17 : decode cX2_hasFault 17 = .ok (.if_icmp .ne 25, 3) := by decide +kernel
theorem dX2_hasFault_20 : decode cX2_hasFault 20 = .ok (.aload_n 0, 1) := by decide +kernel
theorem dX2_hasFault_21 : decode cX2_hasFault 21 = .ok (.getfield 18, 3) := by decide +kernel
theorem dX2_hasFault_24 : decode cX2_hasFault 24 = .ok (.iload_n 3, 1) := by decide +kernel
theorem dX2_hasFault_25 : decode cX2_hasFault 25 = .ok (.iaload, 1) := by decide +kernel
theorem dX2_hasFault_26 : decode cX2_hasFault 26 = .ok (.iconst 3, 1) := by decide +kernel
theorem dX2_hasFault_27 : decode cX2_hasFault 27 = .ok (.if_icmp .ne 15, 3) := by decide +kernel
theorem dX2_hasFault_30 : decode cX2_hasFault 30 = .ok (.aload_n 0, 1) := by decide +kernel
theorem dX2_hasFault_31 : decode cX2_hasFault 31 = .ok (.getfield 27, 3) := by decide +kernel
theorem dX2_hasFault_34 : decode cX2_hasFault 34 = .ok (.iload_n 3, 1) := by decide +kernel
theorem dX2_hasFault_35 : decode cX2_hasFault 35 = .ok (.iaload, 1) := by decide +kernel
theorem dX2_hasFault_36 : decode cX2_hasFault 36 = .ok (.iload_n 2, 1) := by decide +kernel
theorem dX2_hasFault_37 : decode cX2_hasFault 37 = .ok (.if_icmp .ne 5, 3) := by decide +kernel
theorem dX2_hasFault_40 : decode cX2_hasFault 40 = .ok (.iconst 1, 1) := by decide +kernel
theorem dX2_hasFault_41 : decode cX2_hasFault 41 = .ok (.ireturn, 1) := by decide +kernel
theorem dX2_hasFault_42 : decode cX2_hasFault 42 = .ok (.iinc 3 1, 3) := by decide +kernel
theorem dX2_hasFault_45 : decode cX2_hasFault 45 = .ok (.goto (-43), 3) := by decide +kernel
theorem dX2_hasFault_48 : decode cX2_hasFault 48 = .ok (.iconst 0, 1) := by decide +kernel
theorem dX2_hasFault_49 : decode cX2_hasFault 49 = .ok (.ireturn, 1) := by decide +kernel
theorem dX2_value_0 : decode cX2_value 0 = .ok (.iload_n 2, 1) := by decide +kernel
theorem dX2_value_1 : decode cX2_value 1 = .ok (.tableswitch 81 0 5 #[39, 46, 53, 60, 67, 74], 39) := by decide +kernel
theorem dX2_value_40 : decode cX2_value 40 = .ok (.aload_n 0, 1) := by decide +kernel
theorem dX2_value_41 : decode cX2_value 41 = .ok (.getfield 9, 3) := by decide +kernel
theorem dX2_value_44 : decode cX2_value 44 = .ok (.iload_n 1, 1) := by decide +kernel
theorem dX2_value_45 : decode cX2_value 45 = .ok (.iaload, 1) := by decide +kernel
theorem dX2_value_46 : decode cX2_value 46 = .ok (.ireturn, 1) := by decide +kernel
theorem dX2_value_47 : decode cX2_value 47 = .ok (.aload_n 0, 1) := by decide +kernel
theorem dX2_value_48 : decode cX2_value 48 = .ok (.getfield 15, 3) := by decide +kernel
theorem dX2_value_51 : decode cX2_value 51 = .ok (.iload_n 1, 1) := by decide +kernel
theorem dX2_value_52 : decode cX2_value 52 = .ok (.iaload, 1) := by decide +kernel
theorem dX2_value_53 : decode cX2_value 53 = .ok (.ireturn, 1) := by decide +kernel
theorem dX2_value_54 : decode cX2_value 54 = .ok (.aload_n 0, 1) := by decide +kernel
theorem dX2_value_55 : decode cX2_value 55 = .ok (.getfield 18, 3) := by decide +kernel
theorem dX2_value_58 : decode cX2_value 58 = .ok (.iload_n 1, 1) := by decide +kernel
theorem dX2_value_59 : decode cX2_value 59 = .ok (.iaload, 1) := by decide +kernel
theorem dX2_value_60 : decode cX2_value 60 = .ok (.ireturn, 1) := by decide +kernel
theorem dX2_value_61 : decode cX2_value 61 = .ok (.aload_n 0, 1) := by decide +kernel
theorem dX2_value_62 : decode cX2_value 62 = .ok (.getfield 21, 3) := by decide +kernel
theorem dX2_value_65 : decode cX2_value 65 = .ok (.iload_n 1, 1) := by decide +kernel
theorem dX2_value_66 : decode cX2_value 66 = .ok (.iaload, 1) := by decide +kernel
theorem dX2_value_67 : decode cX2_value 67 = .ok (.ireturn, 1) := by decide +kernel
theorem dX2_value_68 : decode cX2_value 68 = .ok (.aload_n 0, 1) := by decide +kernel
theorem dX2_value_69 : decode cX2_value 69 = .ok (.getfield 24, 3) := by decide +kernel
theorem dX2_value_72 : decode cX2_value 72 = .ok (.iload_n 1, 1) := by decide +kernel
theorem dX2_value_73 : decode cX2_value 73 = .ok (.iaload, 1) := by decide +kernel
theorem dX2_value_74 : decode cX2_value 74 = .ok (.ireturn, 1) := by decide +kernel
theorem dX2_value_75 : decode cX2_value 75 = .ok (.aload_n 0, 1) := by decide +kernel
theorem dX2_value_76 : decode cX2_value 76 = .ok (.getfield 27, 3) := by decide +kernel
theorem dX2_value_79 : decode cX2_value 79 = .ok (.iload_n 1, 1) := by decide +kernel
theorem dX2_value_80 : decode cX2_value 80 = .ok (.iaload, 1) := by decide +kernel
theorem dX2_value_81 : decode cX2_value 81 = .ok (.ireturn, 1) := by decide +kernel
theorem dX2_value_82 : decode cX2_value 82 = .ok (.aload_n 0, 1) := by decide +kernel
theorem dX2_value_83 : decode cX2_value 83 = .ok (.getfield 30, 3) := by decide +kernel
theorem dX2_value_86 : decode cX2_value 86 = .ok (.iload_n 1, 1) := by decide +kernel
theorem dX2_value_87 : decode cX2_value 87 = .ok (.iaload, 1) := by decide +kernel
theorem dX2_value_88 : decode cX2_value 88 = .ok (.ireturn, 1) := by decide +kernel
theorem dX3_init_0 : decode cX3_init 0 = .ok (.aload_n 0, 1) := by decide +kernel
theorem dX3_init_1 : decode cX3_init 1 = .ok (.invokespecial 3, 3) := by decide +kernel
theorem dX3_init_4 : decode cX3_init 4 = .ok (.aload_n 0, 1) := by decide +kernel
theorem dX3_init_5 : decode cX3_init 5 = .ok (.iconst 4, 1) := by decide +kernel
theorem dX3_init_6 : decode cX3_init 6 = .ok (.newarray .int, 2) := by decide +kernel
theorem dX3_init_8 : decode cX3_init 8 = .ok (.putfield 9, 3) := by decide +kernel
theorem dX3_init_11 : decode cX3_init 11 = .ok (.aload_n 0, 1) := by decide +kernel
theorem dX3_init_12 : decode cX3_init 12 = .ok (.sipush 150, 3) := by decide +kernel
theorem dX3_init_15 : decode cX3_init 15 = .ok (.newarray .byte, 2) := by decide +kernel
theorem dX3_init_17 : decode cX3_init 17 = .ok (.putfield 15, 3) := by decide +kernel
theorem dX3_init_20 : decode cX3_init 20 = .ok (.return_, 1) := by decide +kernel
theorem dX3_append_0 : decode cX3_append 0 = .ok (.aload_n 0, 1) := by decide +kernel
theorem dX3_append_1 : decode cX3_append 1 = .ok (.getfield 15, 3) := by decide +kernel
theorem dX3_append_4 : decode cX3_append 4 = .ok (.aload_n 0, 1) := by decide +kernel
theorem dX3_append_5 : decode cX3_append 5 = .ok (.getfield 19, 3) := by decide +kernel
theorem dX3_append_8 : decode cX3_append 8 = .ok (.iload_n 1, 1) := by decide +kernel
theorem dX3_append_9 : decode cX3_append 9 = .ok (.i2b, 1) := by decide +kernel
theorem dX3_append_10 : decode cX3_append 10 = .ok (.bastore, 1) := by decide +kernel
theorem dX3_append_11 : decode cX3_append 11 = .ok (.aload_n 0, 1) := by decide +kernel
theorem dX3_append_12 : decode cX3_append 12 = .ok (.dup, 1) := by decide +kernel
theorem dX3_append_13 : decode cX3_append 13 = .ok (.getfield 19, 3) := by decide +kernel
theorem dX3_append_16 : decode cX3_append 16 = .ok (.iconst 1, 1) := by decide +kernel
theorem dX3_append_17 : decode cX3_append 17 = .ok (.iadd, 1) := by decide +kernel
theorem dX3_append_18 : decode cX3_append 18 = .ok (.putfield 19, 3) := by decide +kernel
theorem dX3_append_21 : decode cX3_append 21 = .ok (.aload_n 0, 1) := by decide +kernel
theorem dX3_append_22 : decode cX3_append 22 = .ok (.getfield 19, 3) := by decide +kernel
theorem dX3_append_25 : decode cX3_append 25 = .ok (.ireturn, 1) := by decide +kernel
theorem dX3_rewind_0 : decode cX3_rewind 0 = .ok (.aload_n 0, 1) := by decide +kernel
theorem dX3_rewind_1 : decode cX3_rewind 1 = .ok (.iconst 0, 1) := by decide +kernel
theorem dX3_rewind_2 : decode cX3_rewind 2 = .ok (.putfield 23, 3) := by decide +kernel
theorem dX3_rewind_5 : decode cX3_rewind 5 = .ok (.return_, 1) := by decide +kernel
theorem dX3_hasMore_0 : decode cX3_hasMore 0 = .ok (.aload_n 0, 1) := by decide +kernel
theorem dX3_hasMore_1 : decode cX3_hasMore 1 = .ok (.invokevirtual 26, 3) := by decide +kernel
theorem dX3_hasMore_4 : decode cX3_hasMore 4 = .ok (.aload_n 0, 1) := by decide +kernel
theorem dX3_hasMore_5 : decode cX3_hasMore 5 = .ok (.getfield 23, 3) := by decide +kernel
theorem dX3_hasMore_8 : decode cX3_hasMore 8 = .ok (.aload_n 0, 1) := by decide +kernel
theorem dX3_hasMore_9 : decode cX3_hasMore 9 = .ok (.getfield 19, 3) := by decide +kernel
theorem dX3_hasMore_12 : decode cX3_hasMore 12 = .ok (.if_icmp .ge 7, 3) := by decide +kernel
theorem dX3_hasMore_15 : decode cX3_hasMore 15 = .ok (.iconst 1, 1) := by decide +kernel
theorem dX3_hasMore_16 : decode cX3_hasMore 16 = .ok (.goto 4, 3) := by decide +kernel
theorem dX3_hasMore_19 : decode cX3_hasMore 19 = .ok (.iconst 0, 1) := by decide +kernel
theorem dX3_hasMore_20 : decode cX3_hasMore 20 = .ok (.ireturn, 1) := by decide +kernel
theorem dX3_findFault_0 : decode cX3_findFault 0 = .ok (.aload_n 0, 1) := by decide +kernel
theorem dX3_findFault_1 : decode cX3_findFault 1 = .ok (.invokevirtual 29, 3) := by decide +kernel
theorem dX3_findFault_4 : decode cX3_findFault 4 = .ok (.iconst 0, 1) := by decide +kernel
theorem dX3_findFault_5 : decode cX3_findFault 5 = .ok (.istore_n 1, 1) := by decide +kernel
theorem dX3_findFault_6 : decode cX3_findFault 6 = .ok (.iload_n 1, 1) := by decide +kernel
theorem dX3_findFault_7 : decode cX3_findFault 7 = .ok (.sipush 150, 3) := by decide +kernel
theorem dX3_findFault_10 : decode cX3_findFault 10 = .ok (.if_icmp .ge 28, 3) := by decide +kernel
theorem dX3_findFault_13 : decode cX3_findFault 13 = .ok (.aload_n 0, 1) := by decide +kernel
theorem dX3_findFault_14 : decode cX3_findFault 14 = .ok (.invokevirtual 32, 3) := by decide +kernel
theorem dX3_findFault_17 : decode cX3_findFault 17 = .ok (.ifCond .eq 21, 3) := by decide +kernel
theorem dX3_findFault_20 : decode cX3_findFault 20 = .ok (.aload_n 0, 1) := by decide +kernel
theorem dX3_findFault_21 : decode cX3_findFault 21 = .ok (.invokevirtual 36, 3) := by decide +kernel
theorem dX3_findFault_24 : decode cX3_findFault 24 = .ok (.istore_n 2, 1) := by decide +kernel
theorem dX3_findFault_25 : decode cX3_findFault 25 = .ok (.iload_n 2, 1) := by decide +kernel
theorem dX3_findFault_26 : decode cX3_findFault 26 = .ok (.iconst (-1), 1) := by decide +kernel
theorem dX3_findFault_27 : decode cX3_findFault 27 = .ok (.if_icmp .eq 5, 3) := by decide +kernel
theorem dX3_findFault_30 : decode cX3_findFault 30 = .ok (.iload_n 2, 1) := by decide +kernel
theorem dX3_findFault_31 : decode cX3_findFault 31 = .ok (.ireturn, 1) := by decide +kernel
theorem dX3_findFault_32 : decode cX3_findFault 32 = .ok (.iinc 1 1, 3) := by decide +kernel
theorem dX3_findFault_35 : decode cX3_findFault 35 = .ok (.goto (-29), 3) := by decide +kernel
theorem dX3_findFault_38 : decode cX3_findFault 38 = .ok (.iconst (-1), 1) := by decide +kernel
theorem dX3_findFault_39 : decode cX3_findFault 39 = .ok (.ireturn, 1) := by decide +kernel
theorem dX3_readCommand_0 : decode cX3_readCommand 0 = .ok (.aload_n 0, 1) := by decide +kernel
theorem dX3_readCommand_1 : decode cX3_readCommand 1 = .ok (.getfield 23, 3) := by decide +kernel
theorem dX3_readCommand_4 : decode cX3_readCommand 4 = .ok (.istore_n 1, 1) := by decide +kernel
theorem dX3_readCommand_5 : decode cX3_readCommand 5 = .ok (.aload_n 0, 1) := by decide +kernel
theorem dX3_readCommand_6 : decode cX3_readCommand 6 = .ok (.invokevirtual 40, 3) := by decide +kernel
theorem dX3_readCommand_9 : decode cX3_readCommand 9 = .ok (.aload_n 0, 1) := by decide +kernel
theorem dX3_readCommand_10 : decode cX3_readCommand 10 = .ok (.aload_n 0, 1) := by decide +kernel
theorem dX3_readCommand_11 : decode cX3_readCommand 11 = .ok (.iload_n 1, 1) := by decide +kernel
theorem dX3_readCommand_12 : decode cX3_readCommand 12 = .ok (.aload_n 0, 1) := by decide +kernel
theorem dX3_readCommand_13 : decode cX3_readCommand 13 = .ok (.getfield 23, 3) := by decide +kernel
theorem dX3_readCommand_16 : decode cX3_readCommand 16 = .ok (.invokevirtual 43, 3) := by decide +kernel
theorem dX3_readCommand_19 : decode cX3_readCommand 19 = .ok (.putfield 47, 3) := by decide +kernel
theorem dX3_readCommand_22 : decode cX3_readCommand 22 = .ok (.aload_n 0, 1) := by decide +kernel
theorem dX3_readCommand_23 : decode cX3_readCommand 23 = .ok (.getfield 47, 3) := by decide +kernel
theorem dX3_readCommand_26 : decode cX3_readCommand 26 = .ok (.ifnonnull 5, 3) := by decide +kernel
theorem dX3_readCommand_29 : decode cX3_readCommand 29 = .ok (.iload_n 1, 1) := by decide +kernel
theorem dX3_readCommand_30 : decode cX3_readCommand 30 = .ok (.ireturn, 1) := by decide +kernel
theorem dX3_readCommand_31 : decode cX3_readCommand 31 = .ok (.iconst 0, 1) := by decide +kernel
theorem dX3_readCommand_32 : decode cX3_readCommand 32 = .ok (.istore_n 2, 1) := by decide +kernel
theorem dX3_readCommand_33 : decode cX3_readCommand 33 = .ok (.iload_n 2, 1) := by decide +kernel
theorem dX3_readCommand_34 : decode cX3_readCommand 34 = .ok (.aload_n 0, 1) := by decide +kernel
theorem dX3_readCommand_35 : decode cX3_readCommand 35 = .ok (.getfield 47, 3) := by decide +kernel
theorem dX3_readCommand_38 : decode cX3_readCommand 38 = .ok (.getfield 51, 3) := by decide +kernel
theorem dX3_readCommand_41 : decode cX3_readCommand 41 = .ok (.if_icmp .ge 22, 3) := by decide +kernel
theorem dX3_readCommand_44 : decode cX3_readCommand 44 = .ok (.aload_n 0, 1) := by decide +kernel
theorem dX3_readCommand_45 : decode cX3_readCommand 45 = .ok (.iload_n 2, 1) := by decide +kernel
theorem dX3_readCommand_46 : decode cX3_readCommand 46 = .ok (.invokevirtual 55, 3) := by decide +kernel
theorem dX3_readCommand_49 : decode cX3_readCommand 49 = .ok (.ifCond .ne 8, 3) := by decide +kernel
theorem dX3_readCommand_52 : decode cX3_readCommand 52 = .ok (.aload_n 0, 1) := by decide +kernel
theorem dX3_readCommand_53 : decode cX3_readCommand 53 = .ok (.getfield 23, 3) := by decide +kernel
theorem dX3_readCommand_56 : decode cX3_readCommand 56 = .ok (.ireturn, 1) := by decide +kernel
theorem dX3_readCommand_57 : decode cX3_readCommand 57 = .ok (.iinc 2 1, 3) := by decide +kernel
theorem dX3_readCommand_60 : decode cX3_readCommand 60 = .ok (.goto (-27), 3) := by decide +kernel
theorem dX3_readCommand_63 : decode cX3_readCommand 63 = .ok (.aload_n 0, 1) := by decide +kernel
theorem dX3_readCommand_64 : decode cX3_readCommand 64 = .ok (.invokevirtual 26, 3) := by decide +kernel
theorem dX3_readCommand_67 : decode cX3_readCommand 67 = .ok (.aload_n 0, 1) := by decide +kernel
theorem dX3_readCommand_68 : decode cX3_readCommand 68 = .ok (.invokevirtual 59, 3) := by decide +kernel
theorem dX3_readCommand_71 : decode cX3_readCommand 71 = .ok (.bipush 59, 2) := by decide +kernel
theorem dX3_readCommand_73 : decode cX3_readCommand 73 = .ok (.if_icmp .eq 8, 3) := by decide +kernel
theorem dX3_readCommand_76 : decode cX3_readCommand 76 = .ok (.aload_n 0, 1) := by decide +kernel
theorem dX3_readCommand_77 : decode cX3_readCommand 77 = .ok (.getfield 23, 3) := by decide +kernel
theorem dX3_readCommand_80 : decode cX3_readCommand 80 = .ok (.ireturn, 1) := by decide +kernel
theorem dX3_readCommand_81 : decode cX3_readCommand 81 = .ok (.aload_n 0, 1) := by decide +kernel
theorem dX3_readCommand_82 : decode cX3_readCommand 82 = .ok (.dup, 1) := by decide +kernel
theorem dX3_readCommand_83 : decode cX3_readCommand 83 = .ok (.getfield 23, 3) := by decide +kernel
theorem dX3_readCommand_86 : decode cX3_readCommand 86 = .ok (.iconst 1, 1) := by decide +kernel
theorem dX3_readCommand_87 : decode cX3_readCommand 87 = .ok (.iadd, 1) := by decide +kernel
theorem dX3_readCommand_88 : decode cX3_readCommand 88 = .ok (.putfield 23, 3) := by decide +kernel
theorem dX3_readCommand_91 : decode cX3_readCommand 91 = .ok (.iconst (-1), 1) := by decide +kernel
theorem dX3_readCommand_92 : decode cX3_readCommand 92 = .ok (.ireturn, 1) := by decide +kernel
theorem dX3_readNumber_0 : decode cX3_readNumber 0 = .ok (.aload_n 0, 1) := by decide +kernel
theorem dX3_readNumber_1 : decode cX3_readNumber 1 = .ok (.invokevirtual 59, 3) := by decide +kernel
theorem dX3_readNumber_4 : decode cX3_readNumber 4 = .ok (.bipush 32, 2) := by decide +kernel
theorem dX3_readNumber_6 : decode cX3_readNumber 6 = .ok (.if_icmp .eq 5, 3) := by decide +kernel
theorem dX3_readNumber_9 : decode cX3_readNumber 9 = .ok (.iconst 0, 1) := by decide +kernel
theorem dX3_readNumber_10 : decode cX3_readNumber 10 = .ok (.ireturn, 1) := by decide +kernel
theorem dX3_readNumber_11 : decode cX3_readNumber 11 = .ok (.aload_n 0, 1) := by decide +kernel
theorem dX3_readNumber_12 : decode cX3_readNumber 12 = .ok (.invokevirtual 26, 3) := by decide +kernel
theorem dX3_readNumber_15 : decode cX3_readNumber 15 = .ok (.aload_n 0, 1) := by decide +kernel
theorem dX3_readNumber_16 : decode cX3_readNumber 16 = .ok (.invokevirtual 59, 3) := by decide +kernel
theorem dX3_readNumber_19 : decode cX3_readNumber 19 = .ok (.invokestatic 62, 3) := by decide +kernel
theorem dX3_readNumber_22 : decode cX3_readNumber 22 = .ok (.ifCond .ne 5, 3) := by decide +kernel
theorem dX3_readNumber_25 : decode cX3_readNumber 25 = .ok (.iconst 0, 1) := by decide +kernel
theorem dX3_readNumber_26 : decode cX3_readNumber 26 = .ok (.ireturn, 1) := by decide +kernel
theorem dX3_readNumber_27 : decode cX3_readNumber 27 = .ok (.iconst 0, 1) := by decide +kernel
theorem dX3_readNumber_28 : decode cX3_readNumber 28 = .ok (.istore_n 2, 1) := by decide +kernel
theorem dX3_readNumber_29 : decode cX3_readNumber 29 = .ok (.iconst 0, 1) := by decide +kernel
theorem dX3_readNumber_30 : decode cX3_readNumber 30 = .ok (.istore_n 3, 1) := by decide +kernel
theorem dX3_readNumber_31 : decode cX3_readNumber 31 = .ok (.iload_n 3, 1) := by decide +kernel
theorem dX3_readNumber_32 : decode cX3_readNumber 32 = .ok (.iconst 3, 1) := by decide +kernel
theorem dX3_readNumber_33 : decode cX3_readNumber 33 = .ok (.if_icmp .ge 42, 3) := by decide +kernel
theorem dX3_readNumber_36 : decode cX3_readNumber 36 = .ok (.aload_n 0, 1) := by decide +kernel
theorem dX3_readNumber_37 : decode cX3_readNumber 37 = .ok (.invokevirtual 59, 3) := by decide +kernel
theorem dX3_readNumber_40 : decode cX3_readNumber 40 = .ok (.invokestatic 62, 3) := by decide +kernel
theorem dX3_readNumber_43 : decode cX3_readNumber 43 = .ok (.ifCond .eq 32, 3) := by decide +kernel
theorem dX3_readNumber_46 : decode cX3_readNumber 46 = .ok (.bipush 10, 2) := by decide +kernel
theorem dX3_readNumber_48 : decode cX3_readNumber 48 = .ok (.iload_n 2, 1) := by decide +kernel
theorem dX3_readNumber_49 : decode cX3_readNumber 49 = .ok (.imul, 1) := by decide +kernel
theorem dX3_readNumber_50 : decode cX3_readNumber 50 = .ok (.aload_n 0, 1) := by decide +kernel
theorem dX3_readNumber_51 : decode cX3_readNumber 51 = .ok (.invokevirtual 59, 3) := by decide +kernel
theorem dX3_readNumber_54 : decode cX3_readNumber 54 = .ok (.iadd, 1) := by decide +kernel
theorem dX3_readNumber_55 : decode cX3_readNumber 55 = .ok (.bipush 48, 2) := by decide +kernel
theorem dX3_readNumber_57 : decode cX3_readNumber 57 = .ok (.isub, 1) := by decide +kernel
theorem dX3_readNumber_58 : decode cX3_readNumber 58 = .ok (.istore_n 2, 1) := by decide +kernel
theorem dX3_readNumber_59 : decode cX3_readNumber 59 = .ok (.aload_n 0, 1) := by decide +kernel
theorem dX3_readNumber_60 : decode cX3_readNumber 60 = .ok (.dup, 1) := by decide +kernel
theorem dX3_readNumber_61 : decode cX3_readNumber 61 = .ok (.getfield 23, 3) := by decide +kernel
theorem dX3_readNumber_64 : decode cX3_readNumber 64 = .ok (.iconst 1, 1) := by decide +kernel
theorem dX3_readNumber_65 : decode cX3_readNumber 65 = .ok (.iadd, 1) := by decide +kernel
theorem dX3_readNumber_66 : decode cX3_readNumber 66 = .ok (.putfield 23, 3) := by decide +kernel
theorem dX3_readNumber_69 : decode cX3_readNumber 69 = .ok (.iinc 3 1, 3) := by decide +kernel
theorem dX3_readNumber_72 : decode cX3_readNumber 72 = .ok (.goto (-41), 3) := by decide +kernel
theorem dX3_readNumber_75 : decode cX3_readNumber 75 = .ok (.aload_n 0, 1) := by decide +kernel
theorem dX3_readNumber_76 : decode cX3_readNumber 76 = .ok (.getfield 9, 3) := by decide +kernel
theorem dX3_readNumber_79 : decode cX3_readNumber 79 = .ok (.iload_n 1, 1) := by decide +kernel
theorem dX3_readNumber_80 : decode cX3_readNumber 80 = .ok (.iload_n 2, 1) := by decide +kernel
theorem dX3_readNumber_81 : decode cX3_readNumber 81 = .ok (.iastore, 1) := by decide +kernel
theorem dX3_readNumber_82 : decode cX3_readNumber 82 = .ok (.iconst 1, 1) := by decide +kernel
theorem dX3_readNumber_83 : decode cX3_readNumber 83 = .ok (.ireturn, 1) := by decide +kernel
theorem dX3_next_0 : decode cX3_next 0 = .ok (.aload_n 0, 1) := by decide +kernel
theorem dX3_next_1 : decode cX3_next 1 = .ok (.getfield 23, 3) := by decide +kernel
theorem dX3_next_4 : decode cX3_next 4 = .ok (.aload_n 0, 1) := by decide +kernel
theorem dX3_next_5 : decode cX3_next 5 = .ok (.getfield 19, 3) := by decide +kernel
theorem dX3_next_8 : decode cX3_next 8 = .ok (.if_icmp .ge 15, 3) := by decide +kernel
theorem dX3_next_11 : decode cX3_next 11 = .ok (.aload_n 0, 1) := by decide +kernel
theorem dX3_next_12 : decode cX3_next 12 = .ok (.getfield 15, 3) := by decide +kernel
theorem dX3_next_15 : decode cX3_next 15 = .ok (.aload_n 0, 1) := by decide +kernel
theorem dX3_next_16 : decode cX3_next 16 = .ok (.getfield 23, 3) := by decide +kernel
theorem dX3_next_19 : decode cX3_next 19 = .ok (.baload, 1) := by decide +kernel
theorem dX3_next_20 : decode cX3_next 20 = .ok (.goto 4, 3) := by decide +kernel
theorem dX3_next_23 : decode cX3_next 23 = .ok (.iconst (-1), 1) := by decide +kernel
theorem dX3_next_24 : decode cX3_next 24 = .ok (.ireturn, 1) := by decide +kernel
theorem dX3_skipSpaces_0 : decode cX3_skipSpaces 0 = .ok (.aload_n 0, 1) := by decide +kernel
theorem dX3_skipSpaces_1 : decode cX3_skipSpaces 1 = .ok (.getfield 23, 3) := by decide +kernel
theorem dX3_skipSpaces_4 : decode cX3_skipSpaces 4 = .ok (.aload_n 0, 1) := by decide +kernel
theorem dX3_skipSpaces_5 : decode cX3_skipSpaces 5 = .ok (.getfield 19, 3) := by decide +kernel
theorem dX3_skipSpaces_8 : decode cX3_skipSpaces 8 = .ok (.if_icmp .ge 30, 3) := by decide +kernel
theorem dX3_skipSpaces_11 : decode cX3_skipSpaces 11 = .ok (.aload_n 0, 1) := by decide +kernel
theorem dX3_skipSpaces_12 : decode cX3_skipSpaces 12 = .ok (.getfield 15, 3) := by decide +kernel
theorem dX3_skipSpaces_15 : decode cX3_skipSpaces 15 = .ok (.aload_n 0, 1) := by decide +kernel
theorem dX3_skipSpaces_16 : decode cX3_skipSpaces 16 = .ok (.getfield 23, 3) := by decide +kernel
theorem dX3_skipSpaces_19 : decode cX3_skipSpaces 19 = .ok (.baload, 1) := by decide +kernel
theorem dX3_skipSpaces_20 : decode cX3_skipSpaces 20 = .ok (.bipush 32, 2) := by decide +kernel
theorem dX3_skipSpaces_22 : decode cX3_skipSpaces 22 = .ok (.if_icmp .ne 16, 3) := by decide +kernel
theorem dX3_skipSpaces_25 : decode cX3_skipSpaces 25 = .ok (.aload_n 0, 1) := by decide +kernel
theorem dX3_skipSpaces_26 : decode cX3_skipSpaces 26 = .ok (.dup, 1) := by decide +kernel
theorem dX3_skipSpaces_27 : decode cX3_skipSpaces 27 = .ok (.getfield 23, 3) := by decide +kernel
theorem dX3_skipSpaces_30 : decode cX3_skipSpaces 30 = .ok (.iconst 1, 1) := by decide +kernel
theorem dX3_skipSpaces_31 : decode cX3_skipSpaces 31 = .ok (.iadd, 1) := by decide +kernel
theorem dX3_skipSpaces_32 : decode cX3_skipSpaces 32 = .ok (.putfield 23, 3) := by decide +kernel
theorem dX3_skipSpaces_35 : decode cX3_skipSpaces 35 = .ok (.goto (-35), 3) := by decide +kernel
theorem dX3_skipSpaces_38 : decode cX3_skipSpaces 38 = .ok (.return_, 1) := by decide +kernel
theorem dX3_skipLetters_0 : decode cX3_skipLetters 0 = .ok (.aload_n 0, 1) := by decide +kernel
theorem dX3_skipLetters_1 : decode cX3_skipLetters 1 = .ok (.getfield 23, 3) := by decide +kernel
theorem dX3_skipLetters_4 : decode cX3_skipLetters 4 = .ok (.aload_n 0, 1) := by decide +kernel
theorem dX3_skipLetters_5 : decode cX3_skipLetters 5 = .ok (.getfield 19, 3) := by decide +kernel
theorem dX3_skipLetters_8 : decode cX3_skipLetters 8 = .ok (.if_icmp .ge 44, 3) := by decide +kernel
theorem dX3_skipLetters_11 : decode cX3_skipLetters 11 = .ok (.aload_n 0, 1) := by decide +kernel
theorem dX3_skipLetters_12 : decode cX3_skipLetters 12 = .ok (.getfield 15, 3) := by decide +kernel
theorem dX3_skipLetters_15 : decode cX3_skipLetters 15 = .ok (.aload_n 0, 1) := by decide +kernel
theorem dX3_skipLetters_16 : decode cX3_skipLetters 16 = .ok (.getfield 23, 3) := by decide +kernel
theorem dX3_skipLetters_19 : decode cX3_skipLetters 19 = .ok (.baload, 1) := by decide +kernel
theorem dX3_skipLetters_20 : decode cX3_skipLetters 20 = .ok (.bipush 97, 2) := by decide +kernel
theorem dX3_skipLetters_22 : decode cX3_skipLetters 22 = .ok (.if_icmp .lt 30, 3) := by decide +kernel
theorem dX3_skipLetters_25 : decode cX3_skipLetters 25 = .ok (.aload_n 0, 1) := by decide +kernel
theorem dX3_skipLetters_26 : decode cX3_skipLetters 26 = .ok (.getfield 15, 3) := by decide +kernel
theorem dX3_skipLetters_29 : decode cX3_skipLetters 29 = .ok (.aload_n 0, 1) := by decide +kernel
theorem dX3_skipLetters_30 : decode cX3_skipLetters 30 = .ok (.getfield 23, 3) := by decide +kernel
theorem dX3_skipLetters_33 : decode cX3_skipLetters 33 = .ok (.baload, 1) := by decide +kernel
theorem dX3_skipLetters_34 : decode cX3_skipLetters 34 = .ok (.bipush 122, 2) := by decide +kernel
theorem dX3_skipLetters_36 : decode cX3_skipLetters 36 = .ok (.if_icmp .gt 16, 3) := by decide +kernel
theorem dX3_skipLetters_39 : decode cX3_skipLetters 39 = .ok (.aload_n 0, 1) := by decide +kernel
theorem dX3_skipLetters_40 : decode cX3_skipLetters 40 = .ok (.dup, 1) := by decide +kernel
theorem dX3_skipLetters_41 : decode cX3_skipLetters 41 = .ok (.getfield 23, 3) := by decide +kernel
theorem dX3_skipLetters_44 : decode cX3_skipLetters 44 = .ok (.iconst 1, 1) := by decide +kernel
theorem dX3_skipLetters_45 : decode cX3_skipLetters 45 = .ok (.iadd, 1) := by decide +kernel
theorem dX3_skipLetters_46 : decode cX3_skipLetters 46 = .ok (.putfield 23, 3) := by decide +kernel
theorem dX3_skipLetters_49 : decode cX3_skipLetters 49 = .ok (.goto (-49), 3) := by decide +kernel
theorem dX3_skipLetters_52 : decode cX3_skipLetters 52 = .ok (.return_, 1) := by decide +kernel
theorem dX3_isDigit_0 : decode cX3_isDigit 0 = .ok (.iload_n 0, 1) := by decide +kernel
theorem dX3_isDigit_1 : decode cX3_isDigit 1 = .ok (.bipush 48, 2) := by decide +kernel
theorem dX3_isDigit_3 : decode cX3_isDigit 3 = .ok (.if_icmp .lt 13, 3) := by decide +kernel
theorem dX3_isDigit_6 : decode cX3_isDigit 6 = .ok (.iload_n 0, 1) := by decide +kernel
theorem dX3_isDigit_7 : decode cX3_isDigit 7 = .ok (.bipush 57, 2) := by decide +kernel
theorem dX3_isDigit_9 : decode cX3_isDigit 9 = .ok (.if_icmp .gt 7, 3) := by decide +kernel
theorem dX3_isDigit_12 : decode cX3_isDigit 12 = .ok (.iconst 1, 1) := by decide +kernel
theorem dX3_isDigit_13 : decode cX3_isDigit 13 = .ok (.goto 4, 3) := by decide +kernel
theorem dX3_isDigit_16 : decode cX3_isDigit 16 = .ok (.iconst 0, 1) := by decide +kernel
theorem dX3_isDigit_17 : decode cX3_isDigit 17 = .ok (.ireturn, 1) := by decide +kernel
theorem dX3_findVerb_0 : decode cX3_findVerb 0 = .ok (.iconst 0, 1) := by decide +kernel
theorem dX3_findVerb_1 : decode cX3_findVerb 1 = .ok (.istore_n 3, 1) := by decide +kernel
theorem dX3_findVerb_2 : decode cX3_findVerb 2 = .ok (.iload_n 3, 1) := by decide +kernel
theorem dX3_findVerb_3 : decode cX3_findVerb 3 = .ok (.getstatic 65, 3) := by decide +kernel
theorem dX3_findVerb_6 : decode cX3_findVerb 6 = .ok (.arraylength, 1) := by decide +kernel
theorem dX3_findVerb_7 : decode cX3_findVerb 7 = .ok (.if_icmp .ge 32, 3) := by decide +kernel
theorem dX3_findVerb_10 : decode cX3_findVerb 10 = .ok (.aload_n 0, 1) := by decide +kernel
theorem dX3_findVerb_11 : decode cX3_findVerb 11 = .ok (.getstatic 65, 3) := by decide +kernel
theorem dX3_findVerb_14 : decode cX3_findVerb 14 = .ok (.iload_n 3, 1) := by decide +kernel
theorem dX3_findVerb_15 : decode cX3_findVerb 15 = .ok (.aaload, 1) := by decide +kernel
theorem dX3_findVerb_16 : decode cX3_findVerb 16 = .ok (.getfield 69, 3) := by decide +kernel
theorem dX3_findVerb_19 : decode cX3_findVerb 19 = .ok (.iload_n 1, 1) := by decide +kernel
theorem dX3_findVerb_20 : decode cX3_findVerb 20 = .ok (.iload_n 2, 1) := by decide +kernel
theorem dX3_findVerb_21 : decode cX3_findVerb 21 = .ok (.invokevirtual 73, 3) := by decide +kernel
theorem dX3_findVerb_24 : decode cX3_findVerb 24 = .ok (.ifCond .eq 9, 3) := by decide +kernel
theorem dX3_findVerb_27 : decode cX3_findVerb 27 = .ok (.getstatic 65, 3) := by decide +kernel
theorem dX3_findVerb_30 : decode cX3_findVerb 30 = .ok (.iload_n 3, 1) := by decide +kernel
theorem dX3_findVerb_31 : decode cX3_findVerb 31 = .ok (.aaload, 1) := by decide +kernel
theorem dX3_findVerb_32 : decode cX3_findVerb 32 = .ok (.areturn, 1) := by decide +kernel
theorem dX3_findVerb_33 : decode cX3_findVerb 33 = .ok (.iinc 3 1, 3) := by decide +kernel
theorem dX3_findVerb_36 : decode cX3_findVerb 36 = .ok (.goto (-34), 3) := by decide +kernel
theorem dX3_findVerb_39 : decode cX3_findVerb 39 = .ok (.aconst_null, 1) := by decide +kernel
theorem dX3_findVerb_40 : decode cX3_findVerb 40 = .ok (.areturn, 1) := by decide +kernel
theorem dX3_stands_0 : decode cX3_stands 0 = .ok (.aload_n 1, 1) := by decide +kernel
theorem dX3_stands_1 : decode cX3_stands 1 = .ok (.invokevirtual 77, 3) := by decide +kernel
theorem dX3_stands_4 : decode cX3_stands 4 = .ok (.iload_n 3, 1) := by decide +kernel
theorem dX3_stands_5 : decode cX3_stands 5 = .ok (.iload_n 2, 1) := by decide +kernel
theorem dX3_stands_6 : decode cX3_stands 6 = .ok (.isub, 1) := by decide +kernel
theorem dX3_stands_7 : decode cX3_stands 7 = .ok (.if_icmp .eq 5, 3) := by decide +kernel
theorem dX3_stands_10 : decode cX3_stands 10 = .ok (.iconst 0, 1) := by decide +kernel
theorem dX3_stands_11 : decode cX3_stands 11 = .ok (.ireturn, 1) := by decide +kernel
theorem dX3_stands_12 : decode cX3_stands 12 = .ok (.iconst 0, 1) := by decide +kernel
theorem dX3_stands_13 : decode cX3_stands 13 = .ok (.istore 4, 2) := by decide +kernel
theorem dX3_stands_15 : decode cX3_stands 15 = .ok (.iload 4, 2) := by decide +kernel
theorem dX3_stands_17 : decode cX3_stands 17 = .ok (.aload_n 1, 1) := by decide +kernel
theorem dX3_stands_18 : decode cX3_stands 18 = .ok (.invokevirtual 77, 3) := by decide +kernel
theorem dX3_stands_21 : decode cX3_stands 21 = .ok (.if_icmp .ge 29, 3) := by decide +kernel
theorem dX3_stands_24 : decode cX3_stands 24 = .ok (.aload_n 1, 1) := by decide +kernel
theorem dX3_stands_25 : decode cX3_stands 25 = .ok (.iload 4, 2) := by decide +kernel
theorem dX3_stands_27 : decode cX3_stands 27 = .ok (.invokevirtual 81, 3) := by decide +kernel
theorem dX3_stands_30 : decode cX3_stands 30 = .ok (.aload_n 0, 1) := by decide +kernel
theorem dX3_stands_31 : decode cX3_stands 31 = .ok (.getfield 15, 3) := by decide +kernel
theorem dX3_stands_34 : decode cX3_stands 34 = .ok (.iload_n 2, 1) := by decide +kernel
theorem dX3_stands_35 : decode cX3_stands 35 = .ok (.iload 4, 2) := by decide +kernel
theorem dX3_stands_37 : decode cX3_stands 37 = .ok (.iadd, 1) := by decide +kernel
theorem dX3_stands_38 : decode cX3_stands 38 = .ok (.baload, 1) := by decide +kernel
theorem dX3_stands_39 : decode cX3_stands 39 = .ok (.if_icmp .eq 5, 3) := by decide +kernel
theorem dX3_stands_42 : decode cX3_stands 42 = .ok (.iconst 0, 1) := by decide +kernel
theorem dX3_stands_43 : decode cX3_stands 43 = .ok (.ireturn, 1) := by decide +kernel
theorem dX3_stands_44 : decode cX3_stands 44 = .ok (.iinc 4 1, 3) := by decide +kernel
theorem dX3_stands_47 : decode cX3_stands 47 = .ok (.goto (-32), 3) := by decide +kernel
theorem dX3_stands_50 : decode cX3_stands 50 = .ok (.iconst 1, 1) := by decide +kernel
theorem dX3_stands_51 : decode cX3_stands 51 = .ok (.ireturn, 1) := by decide +kernel
theorem dX4_init_0 : decode cX4_init 0 = .ok (.aload_n 0, 1) := by decide +kernel
theorem dX4_init_1 : decode cX4_init 1 = .ok (.invokespecial 3, 3) := by decide +kernel
theorem dX4_init_4 : decode cX4_init 4 = .ok (.aload_n 0, 1) := by decide +kernel
theorem dX4_init_5 : decode cX4_init 5 = .ok (.iconst 5, 1) := by decide +kernel
theorem dX4_init_6 : decode cX4_init 6 = .ok (.anewarray 9, 3) := by decide +kernel
theorem dX4_init_9 : decode cX4_init 9 = .ok (.putfield 11, 3) := by decide +kernel
theorem dX4_init_12 : decode cX4_init 12 = .ok (.iconst 0, 1) := by decide +kernel
theorem dX4_init_13 : decode cX4_init 13 = .ok (.istore_n 1, 1) := by decide +kernel
theorem dX4_init_14 : decode cX4_init 14 = .ok (.iload_n 1, 1) := by decide +kernel
theorem dX4_init_15 : decode cX4_init 15 = .ok (.iconst 4, 1) := by decide +kernel
theorem dX4_init_16 : decode cX4_init 16 = .ok (.if_icmp .gt 22, 3) := by decide +kernel
theorem dX4_init_19 : decode cX4_init 19 = .ok (.aload_n 0, 1) := by decide +kernel
theorem dX4_init_20 : decode cX4_init 20 = .ok (.getfield 11, 3) := by decide +kernel
theorem dX4_init_23 : decode cX4_init 23 = .ok (.iload_n 1, 1) := by decide +kernel
theorem dX4_init_24 : decode cX4_init 24 = .ok (.new 9, 3) := by decide +kernel
theorem dX4_init_27 : decode cX4_init 27 = .ok (.dup, 1) := by decide +kernel
theorem dX4_init_28 : decode cX4_init 28 = .ok (.invokespecial 17, 3) := by decide +kernel
theorem dX4_init_31 : decode cX4_init 31 = .ok (.aastore, 1) := by decide +kernel
theorem dX4_init_32 : decode cX4_init 32 = .ok (.iinc 1 1, 3) := by decide +kernel
theorem dX4_init_35 : decode cX4_init 35 = .ok (.goto (-21), 3) := by decide +kernel
theorem dX4_init_38 : decode cX4_init 38 = .ok (.return_, 1) := by decide +kernel
theorem dX4_prepare_0 : decode cX4_prepare 0 = .ok (.aload_n 0, 1) := by decide +kernel
theorem dX4_prepare_1 : decode cX4_prepare 1 = .ok (.getfield 11, 3) := by decide +kernel
theorem dX4_prepare_4 : decode cX4_prepare 4 = .ok (.aload_n 0, 1) := by decide +kernel
theorem dX4_prepare_5 : decode cX4_prepare 5 = .ok (.getfield 18, 3) := by decide +kernel
theorem dX4_prepare_8 : decode cX4_prepare 8 = .ok (.aaload, 1) := by decide +kernel
theorem dX4_prepare_9 : decode cX4_prepare 9 = .ok (.aload_n 1, 1) := by decide +kernel
theorem dX4_prepare_10 : decode cX4_prepare 10 = .ok (.invokevirtual 22, 3) := by decide +kernel
theorem dX4_prepare_13 : decode cX4_prepare 13 = .ok (.return_, 1) := by decide +kernel
theorem dX4_keep_0 : decode cX4_keep 0 = .ok (.aload_n 0, 1) := by decide +kernel
theorem dX4_keep_1 : decode cX4_keep 1 = .ok (.getfield 18, 3) := by decide +kernel
theorem dX4_keep_4 : decode cX4_keep 4 = .ok (.iconst 4, 1) := by decide +kernel
theorem dX4_keep_5 : decode cX4_keep 5 = .ok (.if_icmp .ge 14, 3) := by decide +kernel
theorem dX4_keep_8 : decode cX4_keep 8 = .ok (.aload_n 0, 1) := by decide +kernel
theorem dX4_keep_9 : decode cX4_keep 9 = .ok (.dup, 1) := by decide +kernel
theorem dX4_keep_10 : decode cX4_keep 10 = .ok (.getfield 18, 3) := by decide +kernel
theorem dX4_keep_13 : decode cX4_keep 13 = .ok (.iconst 1, 1) := by decide +kernel
theorem dX4_keep_14 : decode cX4_keep 14 = .ok (.iadd, 1) := by decide +kernel
theorem dX4_keep_15 : decode cX4_keep 15 = .ok (.putfield 18, 3) := by decide +kernel
theorem dX4_keep_18 : decode cX4_keep 18 = .ok (.return_, 1) := by decide +kernel
theorem dX4_keep_19 : decode cX4_keep 19 = .ok (.aload_n 0, 1) := by decide +kernel
theorem dX4_keep_20 : decode cX4_keep 20 = .ok (.getfield 11, 3) := by decide +kernel
theorem dX4_keep_23 : decode cX4_keep 23 = .ok (.iconst 0, 1) := by decide +kernel
theorem dX4_keep_24 : decode cX4_keep 24 = .ok (.aaload, 1) := by decide +kernel
theorem dX4_keep_25 : decode cX4_keep 25 = .ok (.astore_n 1, 1) := by decide +kernel
theorem dX4_keep_26 : decode cX4_keep 26 = .ok (.iconst 0, 1) := by decide +kernel
theorem dX4_keep_27 : decode cX4_keep 27 = .ok (.istore_n 2, 1) := by decide +kernel
theorem dX4_keep_28 : decode cX4_keep 28 = .ok (.iload_n 2, 1) := by decide +kernel
theorem dX4_keep_29 : decode cX4_keep 29 = .ok (.iconst 4, 1) := by decide +kernel
theorem dX4_keep_30 : decode cX4_keep 30 = .ok (.if_icmp .ge 23, 3) := by decide +kernel
theorem dX4_keep_33 : decode cX4_keep 33 = .ok (.aload_n 0, 1) := by decide +kernel
theorem dX4_keep_34 : decode cX4_keep 34 = .ok (.getfield 11, 3) := by decide +kernel
theorem dX4_keep_37 : decode cX4_keep 37 = .ok (.iload_n 2, 1) := by decide +kernel
theorem dX4_keep_38 : decode cX4_keep 38 = .ok (.aload_n 0, 1) := by decide +kernel
theorem dX4_keep_39 : decode cX4_keep 39 = .ok (.getfield 11, 3) := by decide +kernel
theorem dX4_keep_42 : decode cX4_keep 42 = .ok (.iload_n 2, 1) := by decide +kernel
theorem dX4_keep_43 : decode cX4_keep 43 = .ok (.iconst 1, 1) := by decide +kernel
theorem dX4_keep_44 : decode cX4_keep 44 = .ok (.iadd, 1) := by decide +kernel
theorem dX4_keep_45 : decode cX4_keep 45 = .ok (.aaload, 1) := by decide +kernel
theorem dX4_keep_46 : decode cX4_keep 46 = .ok (.aastore, 1) := by decide +kernel
theorem dX4_keep_47 : decode cX4_keep 47 = .ok (.iinc 2 1, 3) := by decide +kernel
theorem dX4_keep_50 : decode cX4_keep 50 = .ok (.goto (-22), 3) := by decide +kernel
theorem dX4_keep_53 : decode cX4_keep 53 = .ok (.aload_n 0, 1) := by decide +kernel
theorem dX4_keep_54 : decode cX4_keep 54 = .ok (.getfield 11, 3) := by decide +kernel
theorem dX4_keep_57 : decode cX4_keep 57 = .ok (.iconst 4, 1) := by decide +kernel
theorem dX4_keep_58 : decode cX4_keep 58 = .ok (.aload_n 1, 1) := by decide +kernel
theorem dX4_keep_59 : decode cX4_keep 59 = .ok (.aastore, 1) := by decide +kernel
theorem dX4_keep_60 : decode cX4_keep 60 = .ok (.return_, 1) := by decide +kernel
theorem dX4_restore_0 : decode cX4_restore 0 = .ok (.aload_n 0, 1) := by decide +kernel
theorem dX4_restore_1 : decode cX4_restore 1 = .ok (.dup, 1) := by decide +kernel
theorem dX4_restore_2 : decode cX4_restore 2 = .ok (.getfield 18, 3) := by decide +kernel
theorem dX4_restore_5 : decode cX4_restore 5 = .ok (.iconst 1, 1) := by decide +kernel
theorem dX4_restore_6 : decode cX4_restore 6 = .ok (.isub, 1) := by decide +kernel
theorem dX4_restore_7 : decode cX4_restore 7 = .ok (.putfield 18, 3) := by decide +kernel
theorem dX4_restore_10 : decode cX4_restore 10 = .ok (.aload_n 1, 1) := by decide +kernel
theorem dX4_restore_11 : decode cX4_restore 11 = .ok (.aload_n 0, 1) := by decide +kernel
theorem dX4_restore_12 : decode cX4_restore 12 = .ok (.getfield 11, 3) := by decide +kernel
theorem dX4_restore_15 : decode cX4_restore 15 = .ok (.aload_n 0, 1) := by decide +kernel
theorem dX4_restore_16 : decode cX4_restore 16 = .ok (.getfield 18, 3) := by decide +kernel
theorem dX4_restore_19 : decode cX4_restore 19 = .ok (.aaload, 1) := by decide +kernel
theorem dX4_restore_20 : decode cX4_restore 20 = .ok (.invokevirtual 22, 3) := by decide +kernel
theorem dX4_restore_23 : decode cX4_restore 23 = .ok (.aload_n 0, 1) := by decide +kernel
theorem dX4_restore_24 : decode cX4_restore 24 = .ok (.getfield 18, 3) := by decide +kernel
theorem dX4_restore_27 : decode cX4_restore 27 = .ok (.ireturn, 1) := by decide +kernel
theorem dX5_init_0 : decode cX5_init 0 = .ok (.aload_n 0, 1) := by decide +kernel
theorem dX5_init_1 : decode cX5_init 1 = .ok (.invokespecial 3, 3) := by decide +kernel
theorem dX5_init_4 : decode cX5_init 4 = .ok (.aload_n 0, 1) := by decide +kernel
theorem dX5_init_5 : decode cX5_init 5 = .ok (.bipush 12, 2) := by decide +kernel
theorem dX5_init_7 : decode cX5_init 7 = .ok (.newarray .int, 2) := by decide +kernel
theorem dX5_init_9 : decode cX5_init 9 = .ok (.putfield 9, 3) := by decide +kernel
theorem dX5_init_12 : decode cX5_init 12 = .ok (.aload_n 0, 1) := by decide +kernel
theorem dX5_init_13 : decode cX5_init 13 = .ok (.bipush 12, 2) := by decide +kernel
theorem dX5_init_15 : decode cX5_init 15 = .ok (.newarray .int, 2) := by decide +kernel
theorem dX5_init_17 : decode cX5_init 17 = .ok (.putfield 15, 3) := by decide +kernel
theorem dX5_init_20 : decode cX5_init 20 = .ok (.aload_n 0, 1) := by decide +kernel
theorem dX5_init_21 : decode cX5_init 21 = .ok (.bipush 12, 2) := by decide +kernel
theorem dX5_init_23 : decode cX5_init 23 = .ok (.newarray .int, 2) := by decide +kernel
theorem dX5_init_25 : decode cX5_init 25 = .ok (.putfield 18, 3) := by decide +kernel
theorem dX5_init_28 : decode cX5_init 28 = .ok (.aload_n 0, 1) := by decide +kernel
theorem dX5_init_29 : decode cX5_init 29 = .ok (.bipush 12, 2) := by decide +kernel
theorem dX5_init_31 : decode cX5_init 31 = .ok (.newarray .int, 2) := by decide +kernel
theorem dX5_init_33 : decode cX5_init 33 = .ok (.putfield 21, 3) := by decide +kernel
theorem dX5_init_36 : decode cX5_init 36 = .ok (.aload_n 0, 1) := by decide +kernel
theorem dX5_init_37 : decode cX5_init 37 = .ok (.bipush 12, 2) := by decide +kernel
theorem dX5_init_39 : decode cX5_init 39 = .ok (.newarray .int, 2) := by decide +kernel
theorem dX5_init_41 : decode cX5_init 41 = .ok (.putfield 24, 3) := by decide +kernel
theorem dX5_init_44 : decode cX5_init 44 = .ok (.aload_n 0, 1) := by decide +kernel
theorem dX5_init_45 : decode cX5_init 45 = .ok (.bipush 12, 2) := by decide +kernel
theorem dX5_init_47 : decode cX5_init 47 = .ok (.newarray .int, 2) := by decide +kernel
theorem dX5_init_49 : decode cX5_init 49 = .ok (.putfield 27, 3) := by decide +kernel
theorem dX5_init_52 : decode cX5_init 52 = .ok (.return_, 1) := by decide +kernel
theorem dX5_copyFrom_0 : decode cX5_copyFrom 0 = .ok (.aload_n 0, 1) := by decide +kernel
theorem dX5_copyFrom_1 : decode cX5_copyFrom 1 = .ok (.aload_n 1, 1) := by decide +kernel
theorem dX5_copyFrom_2 : decode cX5_copyFrom 2 = .ok (.getfield 30, 3) := by decide +kernel
theorem dX5_copyFrom_5 : decode cX5_copyFrom 5 = .ok (.putfield 30, 3) := by decide +kernel
theorem dX5_copyFrom_8 : decode cX5_copyFrom 8 = .ok (.aload_n 1, 1) := by decide +kernel
theorem dX5_copyFrom_9 : decode cX5_copyFrom 9 = .ok (.getfield 9, 3) := by decide +kernel
theorem dX5_copyFrom_12 : decode cX5_copyFrom 12 = .ok (.iconst 0, 1) := by decide +kernel
theorem dX5_copyFrom_13 : decode cX5_copyFrom 13 = .ok (.aload_n 0, 1) := by decide +kernel
theorem dX5_copyFrom_14 : decode cX5_copyFrom 14 = .ok (.getfield 9, 3) := by decide +kernel
theorem dX5_copyFrom_17 : decode cX5_copyFrom 17 = .ok (.iconst 0, 1) := by decide +kernel
theorem dX5_copyFrom_18 : decode cX5_copyFrom 18 = .ok (.bipush 12, 2) := by decide +kernel
theorem dX5_copyFrom_20 : decode cX5_copyFrom 20 = .ok (.invokestatic 34, 3) := by decide +kernel
theorem dX5_copyFrom_23 : decode cX5_copyFrom 23 = .ok (.aload_n 1, 1) := by decide +kernel
theorem dX5_copyFrom_24 : decode cX5_copyFrom 24 = .ok (.getfield 15, 3) := by decide +kernel
theorem dX5_copyFrom_27 : decode cX5_copyFrom 27 = .ok (.iconst 0, 1) := by decide +kernel
theorem dX5_copyFrom_28 : decode cX5_copyFrom 28 = .ok (.aload_n 0, 1) := by decide +kernel
theorem dX5_copyFrom_29 : decode cX5_copyFrom 29 = .ok (.getfield 15, 3) := by decide +kernel
theorem dX5_copyFrom_32 : decode cX5_copyFrom 32 = .ok (.iconst 0, 1) := by decide +kernel
theorem dX5_copyFrom_33 : decode cX5_copyFrom 33 = .ok (.bipush 12, 2) := by decide +kernel
theorem dX5_copyFrom_35 : decode cX5_copyFrom 35 = .ok (.invokestatic 34, 3) := by decide +kernel
theorem dX5_copyFrom_38 : decode cX5_copyFrom 38 = .ok (.aload_n 1, 1) := by decide +kernel
theorem dX5_copyFrom_39 : decode cX5_copyFrom 39 = .ok (.getfield 18, 3) := by decide +kernel
