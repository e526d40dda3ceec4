theorem dX5_copyFrom_42 : decode cX5_copyFrom 42 = .ok (.iconst 0, 1) := by decide +kernel
theorem dX5_copyFrom_43 : decode cX5_copyFrom 43 = .ok (.aload_n 0, 1) := by decide +kernel
theorem dX5_copyFrom_44 : decode cX5_copyFrom 44 = .ok (.getfield 18, 3) := by decide +kernel
theorem dX5_copyFrom_47 : decode cX5_copyFrom 47 = .ok (.iconst 0, 1) := by decide +kernel
theorem dX5_copyFrom_48 : decode cX5_copyFrom 48 = .ok (.bipush 12, 2) := by decide +kernel
theorem dX5_copyFrom_50 : decode cX5_copyFrom 50 = .ok (.invokestatic 34, 3) := by decide +kernel
theorem dX5_copyFrom_53 : decode cX5_copyFrom 53 = .ok (.aload_n 1, 1) := by decide +kernel
theorem dX5_copyFrom_54 : decode cX5_copyFrom 54 = .ok (.getfield 21, 3) := by decide +kernel
theorem dX5_copyFrom_57 : decode cX5_copyFrom 57 = .ok (.iconst 0, 1) := by decide +kernel
theorem dX5_copyFrom_58 : decode cX5_copyFrom 58 = .ok (.aload_n 0, 1) := by decide +kernel
theorem dX5_copyFrom_59 : decode cX5_copyFrom 59 = .ok (.getfield 21, 3) := by decide +kernel
theorem dX5_copyFrom_62 : decode cX5_copyFrom 62 = .ok (.iconst 0, 1) := by decide +kernel
theorem dX5_copyFrom_63 : decode cX5_copyFrom 63 = .ok (.bipush 12, 2) := by decide +kernel
theorem dX5_copyFrom_65 : decode cX5_copyFrom 65 = .ok (.invokestatic 34, 3) := by decide +kernel
theorem dX5_copyFrom_68 : decode cX5_copyFrom 68 = .ok (.aload_n 1, 1) := by decide +kernel
theorem dX5_copyFrom_69 : decode cX5_copyFrom 69 = .ok (.getfield 24, 3) := by decide +kernel
theorem dX5_copyFrom_72 : decode cX5_copyFrom 72 = .ok (.iconst 0, 1) := by decide +kernel
theorem dX5_copyFrom_73 : decode cX5_copyFrom 73 = .ok (.aload_n 0, 1) := by decide +kernel
theorem dX5_copyFrom_74 : decode cX5_copyFrom 74 = .ok (.getfield 24, 3) := by decide +kernel
theorem dX5_copyFrom_77 : decode cX5_copyFrom 77 = .ok (.iconst 0, 1) := by decide +kernel
theorem dX5_copyFrom_78 : decode cX5_copyFrom 78 = .ok (.bipush 12, 2) := by decide +kernel
theorem dX5_copyFrom_80 : decode cX5_copyFrom 80 = .ok (.invokestatic 34, 3) := by decide +kernel
theorem dX5_copyFrom_83 : decode cX5_copyFrom 83 = .ok (.aload_n 1, 1) := by decide +kernel
theorem dX5_copyFrom_84 : decode cX5_copyFrom 84 = .ok (.getfield 27, 3) := by decide +kernel
theorem dX5_copyFrom_87 : decode cX5_copyFrom 87 = .ok (.iconst 0, 1) := by decide +kernel
theorem dX5_copyFrom_88 : decode cX5_copyFrom 88 = .ok (.aload_n 0, 1) := by decide +kernel
theorem dX5_copyFrom_89 : decode cX5_copyFrom 89 = .ok (.getfield 27, 3) := by decide +kernel
theorem dX5_copyFrom_92 : decode cX5_copyFrom 92 = .ok (.iconst 0, 1) := by decide +kernel
theorem dX5_copyFrom_93 : decode cX5_copyFrom 93 = .ok (.bipush 12, 2) := by decide +kernel
theorem dX5_copyFrom_95 : decode cX5_copyFrom 95 = .ok (.invokestatic 34, 3) := by decide +kernel
theorem dX5_copyFrom_98 : decode cX5_copyFrom 98 = .ok (.return_, 1) := by decide +kernel
theorem dX5_has_0 : decode cX5_has 0 = .ok (.iload_n 1, 1) := by decide +kernel
theorem dX5_has_1 : decode cX5_has 1 = .ok (.ifCond .lt 15, 3) := by decide +kernel
theorem dX5_has_4 : decode cX5_has 4 = .ok (.iload_n 1, 1) := by decide +kernel
theorem dX5_has_5 : decode cX5_has 5 = .ok (.aload_n 0, 1) := by decide +kernel
theorem dX5_has_6 : decode cX5_has 6 = .ok (.getfield 30, 3) := by decide +kernel
theorem dX5_has_9 : decode cX5_has 9 = .ok (.if_icmp .ge 7, 3) := by decide +kernel
theorem dX5_has_12 : decode cX5_has 12 = .ok (.iconst 1, 1) := by decide +kernel
theorem dX5_has_13 : decode cX5_has 13 = .ok (.goto 4, 3) := by decide +kernel
theorem dX5_has_16 : decode cX5_has 16 = .ok (.iconst 0, 1) := by decide +kernel
theorem dX5_has_17 : decode cX5_has 17 = .ok (.ireturn, 1) := by decide +kernel
theorem dX5_append_0 : decode cX5_append 0 = .ok (.aload_n 0, 1) := by decide +kernel
theorem dX5_append_1 : decode cX5_append 1 = .ok (.getfield 30, 3) := by decide +kernel
theorem dX5_append_4 : decode cX5_append 4 = .ok (.istore 6, 2) := by decide +kernel
theorem dX5_append_6 : decode cX5_append 6 = .ok (.aload_n 0, 1) := by decide +kernel
theorem dX5_append_7 : decode cX5_append 7 = .ok (.getfield 9, 3) := by decide +kernel
theorem dX5_append_10 : decode cX5_append 10 = .ok (.iload 6, 2) := by decide +kernel
theorem dX5_append_12 : decode cX5_append 12 = .ok (.iload_n 1, 1) := by decide +kernel
theorem dX5_append_13 : decode cX5_append 13 = .ok (.iastore, 1) := by decide +kernel
theorem dX5_append_14 : decode cX5_append 14 = .ok (.aload_n 0, 1) := by decide +kernel
theorem dX5_append_15 : decode cX5_append 15 = .ok (.getfield 15, 3) := by decide +kernel
theorem dX5_append_18 : decode cX5_append 18 = .ok (.iload 6, 2) := by decide +kernel
theorem dX5_append_20 : decode cX5_append 20 = .ok (.iload_n 2, 1) := by decide +kernel
theorem dX5_append_21 : decode cX5_append 21 = .ok (.iastore, 1) := by decide +kernel
theorem dX5_append_22 : decode cX5_append 22 = .ok (.aload_n 0, 1) := by decide +kernel
theorem dX5_append_23 : decode cX5_append 23 = .ok (.getfield 18, 3) := by decide +kernel
theorem dX5_append_26 : decode cX5_append 26 = .ok (.iload 6, 2) := by decide +kernel
theorem dX5_append_28 : decode cX5_append 28 = .ok (.iload_n 3, 1) := by decide +kernel
theorem dX5_append_29 : decode cX5_append 29 = .ok (.iastore, 1) := by decide +kernel
theorem dX5_append_30 : decode cX5_append 30 = .ok (.aload_n 0, 1) := by decide +kernel
theorem dX5_append_31 : decode cX5_append 31 = .ok (.getfield 21, 3) := by decide +kernel
theorem dX5_append_34 : decode cX5_append 34 = .ok (.iload 6, 2) := by decide +kernel
theorem dX5_append_36 : decode cX5_append 36 = .ok (.iload_n 3, 1) := by decide +kernel
theorem dX5_append_37 : decode cX5_append 37 = .ok (.iastore, 1) := by decide +kernel
theorem dX5_append_38 : decode cX5_append 38 = .ok (.aload_n 0, 1) := by decide +kernel
theorem dX5_append_39 : decode cX5_append 39 = .ok (.getfield 24, 3) := by decide +kernel
theorem dX5_append_42 : decode cX5_append 42 = .ok (.iload 6, 2) := by decide +kernel
theorem dX5_append_44 : decode cX5_append 44 = .ok (.iload 4, 2) := by decide +kernel
theorem dX5_append_46 : decode cX5_append 46 = .ok (.iastore, 1) := by decide +kernel
theorem dX5_append_47 : decode cX5_append 47 = .ok (.aload_n 0, 1) := by decide +kernel
theorem dX5_append_48 : decode cX5_append 48 = .ok (.getfield 27, 3) := by decide +kernel
theorem dX5_append_51 : decode cX5_append 51 = .ok (.iload 6, 2) := by decide +kernel
theorem dX5_append_53 : decode cX5_append 53 = .ok (.iload 5, 2) := by decide +kernel
theorem dX5_append_55 : decode cX5_append 55 = .ok (.iastore, 1) := by decide +kernel
theorem dX5_append_56 : decode cX5_append 56 = .ok (.aload_n 0, 1) := by decide +kernel
theorem dX5_append_57 : decode cX5_append 57 = .ok (.dup, 1) := by decide +kernel
theorem dX5_append_58 : decode cX5_append 58 = .ok (.getfield 30, 3) := by decide +kernel
theorem dX5_append_61 : decode cX5_append 61 = .ok (.iconst 1, 1) := by decide +kernel
theorem dX5_append_62 : decode cX5_append 62 = .ok (.iadd, 1) := by decide +kernel
theorem dX5_append_63 : decode cX5_append 63 = .ok (.putfield 30, 3) := by decide +kernel
theorem dX5_append_66 : decode cX5_append 66 = .ok (.iload 6, 2) := by decide +kernel
theorem dX5_append_68 : decode cX5_append 68 = .ok (.ireturn, 1) := by decide +kernel
theorem dX5_countOpen_0 : decode cX5_countOpen 0 = .ok (.iconst 0, 1) := by decide +kernel
theorem dX5_countOpen_1 : decode cX5_countOpen 1 = .ok (.istore_n 1, 1) := by decide +kernel
theorem dX5_countOpen_2 : decode cX5_countOpen 2 = .ok (.iconst 0, 1) := by decide +kernel
theorem dX5_countOpen_3 : decode cX5_countOpen 3 = .ok (.istore_n 2, 1) := by decide +kernel
theorem dX5_countOpen_4 : decode cX5_countOpen 4 = .ok (.iload_n 2, 1) := by decide +kernel
theorem dX5_countOpen_5 : decode cX5_countOpen 5 = .ok (.aload_n 0, 1) := by decide +kernel
theorem dX5_countOpen_6 : decode cX5_countOpen 6 = .ok (.getfield 30, 3) := by decide +kernel
theorem dX5_countOpen_9 : decode cX5_countOpen 9 = .ok (.if_icmp .ge 21, 3) := by decide +kernel
theorem dX5_countOpen_12 : decode cX5_countOpen 12 = .ok (.aload_n 0, 1) := by decide +kernel
theorem dX5_countOpen_13 : decode cX5_countOpen 13 = .ok (.getfield 21, 3) := by decide +kernel
theorem dX5_countOpen_16 : decode cX5_countOpen 16 = .ok (.iload_n 2, 1) := by decide +kernel
theorem dX5_countOpen_17 : decode cX5_countOpen 17 = .ok (.iaload, 1) := by decide +kernel
theorem dX5_countOpen_18 : decode cX5_countOpen 18 = .ok (.ifCond .le 6, 3) := by decide +kernel
theorem dX5_countOpen_21 : decode cX5_countOpen 21 = .ok (.iinc 1 1, 3) := by decide +kernel
theorem dX5_countOpen_24 : decode cX5_countOpen 24 = .ok (.iinc 2 1, 3) := by decide +kernel
theorem dX5_countOpen_27 : decode cX5_countOpen 27 = .ok (.goto (-23), 3) := by decide +kernel
theorem dX5_countOpen_30 : decode cX5_countOpen 30 = .ok (.iload_n 1, 1) := by decide +kernel
theorem dX5_countOpen_31 : decode cX5_countOpen 31 = .ok (.ireturn, 1) := by decide +kernel
theorem dX5_leftFrom_0 : decode cX5_leftFrom 0 = .ok (.iconst 0, 1) := by decide +kernel
theorem dX5_leftFrom_1 : decode cX5_leftFrom 1 = .ok (.istore_n 2, 1) := by decide +kernel
theorem dX5_leftFrom_2 : decode cX5_leftFrom 2 = .ok (.iconst 0, 1) := by decide +kernel
theorem dX5_leftFrom_3 : decode cX5_leftFrom 3 = .ok (.istore_n 3, 1) := by decide +kernel
theorem dX5_leftFrom_4 : decode cX5_leftFrom 4 = .ok (.iload_n 3, 1) := by decide +kernel
theorem dX5_leftFrom_5 : decode cX5_leftFrom 5 = .ok (.aload_n 0, 1) := by decide +kernel
theorem dX5_leftFrom_6 : decode cX5_leftFrom 6 = .ok (.getfield 30, 3) := by decide +kernel
theorem dX5_leftFrom_9 : decode cX5_leftFrom 9 = .ok (.if_icmp .ge 28, 3) := by decide +kernel
theorem dX5_leftFrom_12 : decode cX5_leftFrom 12 = .ok (.aload_n 0, 1) := by decide +kernel
theorem dX5_leftFrom_13 : decode cX5_leftFrom 13 = .ok (.getfield 9, 3) := by decide +kernel
theorem dX5_leftFrom_16 : decode cX5_leftFrom 16 = .ok (.iload_n 3, 1) := by decide +kernel
theorem dX5_leftFrom_17 : decode cX5_leftFrom 17 = .ok (.iaload, 1) := by decide +kernel
theorem dX5_leftFrom_18 : decode cX5_leftFrom 18 = .ok (.iload_n 1, 1) := by decide +kernel
theorem dX5_leftFrom_19 : decode cX5_leftFrom 19 = .ok (.if_icmp .ne 12, 3) := by decide +kernel
theorem dX5_leftFrom_22 : decode cX5_leftFrom 22 = .ok (.iload_n 2, 1) := by decide +kernel
theorem dX5_leftFrom_23 : decode cX5_leftFrom 23 = .ok (.aload_n 0, 1) := by decide +kernel
theorem dX5_leftFrom_24 : decode cX5_leftFrom 24 = .ok (.getfield 21, 3) := by decide +kernel
theorem dX5_leftFrom_27 : decode cX5_leftFrom 27 = .ok (.iload_n 3, 1) := by decide +kernel
theorem dX5_leftFrom_28 : decode cX5_leftFrom 28 = .ok (.iaload, 1) := by decide +kernel
theorem dX5_leftFrom_29 : decode cX5_leftFrom 29 = .ok (.iadd, 1) := by decide +kernel
theorem dX5_leftFrom_30 : decode cX5_leftFrom 30 = .ok (.istore_n 2, 1) := by decide +kernel
theorem dX5_leftFrom_31 : decode cX5_leftFrom 31 = .ok (.iinc 3 1, 3) := by decide +kernel
theorem dX5_leftFrom_34 : decode cX5_leftFrom 34 = .ok (.goto (-30), 3) := by decide +kernel
theorem dX5_leftFrom_37 : decode cX5_leftFrom 37 = .ok (.iload_n 2, 1) := by decide +kernel
theorem dX5_leftFrom_38 : decode cX5_leftFrom 38 = .ok (.ireturn, 1) := by decide +kernel
theorem dX5_leftTo_0 : decode cX5_leftTo 0 = .ok (.iconst 0, 1) := by decide +kernel
theorem dX5_leftTo_1 : decode cX5_leftTo 1 = .ok (.istore_n 2, 1) := by decide +kernel
theorem dX5_leftTo_2 : decode cX5_leftTo 2 = .ok (.iconst 0, 1) := by decide +kernel
theorem dX5_leftTo_3 : decode cX5_leftTo 3 = .ok (.istore_n 3, 1) := by decide +kernel
theorem dX5_leftTo_4 : decode cX5_leftTo 4 = .ok (.iload_n 3, 1) := by decide +kernel
theorem dX5_leftTo_5 : decode cX5_leftTo 5 = .ok (.aload_n 0, 1) := by decide +kernel
theorem dX5_leftTo_6 : decode cX5_leftTo 6 = .ok (.getfield 30, 3) := by decide +kernel
theorem dX5_leftTo_9 : decode cX5_leftTo 9 = .ok (.if_icmp .ge 28, 3) := by decide +kernel
theorem dX5_leftTo_12 : decode cX5_leftTo 12 = .ok (.aload_n 0, 1) := by decide +kernel
theorem dX5_leftTo_13 : decode cX5_leftTo 13 = .ok (.getfield 15, 3) := by decide +kernel
theorem dX5_leftTo_16 : decode cX5_leftTo 16 = .ok (.iload_n 3, 1) := by decide +kernel
theorem dX5_leftTo_17 : decode cX5_leftTo 17 = .ok (.iaload, 1) := by decide +kernel
theorem dX5_leftTo_18 : decode cX5_leftTo 18 = .ok (.iload_n 1, 1) := by decide +kernel
theorem dX5_leftTo_19 : decode cX5_leftTo 19 = .ok (.if_icmp .ne 12, 3) := by decide +kernel
theorem dX5_leftTo_22 : decode cX5_leftTo 22 = .ok (.iload_n 2, 1) := by decide +kernel
theorem dX5_leftTo_23 : decode cX5_leftTo 23 = .ok (.aload_n 0, 1) := by decide +kernel
theorem dX5_leftTo_24 : decode cX5_leftTo 24 = .ok (.getfield 21, 3) := by decide +kernel
theorem dX5_leftTo_27 : decode cX5_leftTo 27 = .ok (.iload_n 3, 1) := by decide +kernel
theorem dX5_leftTo_28 : decode cX5_leftTo 28 = .ok (.iaload, 1) := by decide +kernel
theorem dX5_leftTo_29 : decode cX5_leftTo 29 = .ok (.iadd, 1) := by decide +kernel
theorem dX5_leftTo_30 : decode cX5_leftTo 30 = .ok (.istore_n 2, 1) := by decide +kernel
theorem dX5_leftTo_31 : decode cX5_leftTo 31 = .ok (.iinc 3 1, 3) := by decide +kernel
theorem dX5_leftTo_34 : decode cX5_leftTo 34 = .ok (.goto (-30), 3) := by decide +kernel
theorem dX5_leftTo_37 : decode cX5_leftTo 37 = .ok (.iload_n 2, 1) := by decide +kernel
theorem dX5_leftTo_38 : decode cX5_leftTo 38 = .ok (.ireturn, 1) := by decide +kernel
theorem dX5_isOverdue_0 : decode cX5_isOverdue 0 = .ok (.iconst 0, 1) := by decide +kernel
theorem dX5_isOverdue_1 : decode cX5_isOverdue 1 = .ok (.istore_n 3, 1) := by decide +kernel
theorem dX5_isOverdue_2 : decode cX5_isOverdue 2 = .ok (.iload_n 3, 1) := by decide +kernel
theorem dX5_isOverdue_3 : decode cX5_isOverdue 3 = .ok (.aload_n 0, 1) := by decide +kernel
theorem dX5_isOverdue_4 : decode cX5_isOverdue 4 = .ok (.getfield 30, 3) := by decide +kernel
theorem dX5_isOverdue_7 : decode cX5_isOverdue 7 = .ok (.if_icmp .ge 40, 3) := by decide +kernel
theorem dX5_isOverdue_10 : decode cX5_isOverdue 10 = .ok (.aload_n 0, 1) := by decide +kernel
theorem dX5_isOverdue_11 : decode cX5_isOverdue 11 = .ok (.getfield 15, 3) := by decide +kernel
theorem dX5_isOverdue_14 : decode cX5_isOverdue 14 = .ok (.iload_n 3, 1) := by decide +kernel
theorem dX5_isOverdue_15 : decode cX5_isOverdue 15 = .ok (.iaload, 1) := by decide +kernel
theorem dX5_isOverdue_16 : decode cX5_isOverdue 16 = .ok (.iload_n 1, 1) := by decide +kernel
theorem dX5_isOverdue_17 : decode cX5_isOverdue 17 = .ok (.if_icmp .ne 24, 3) := by decide +kernel
theorem dX5_isOverdue_20 : decode cX5_isOverdue 20 = .ok (.aload_n 0, 1) := by decide +kernel
theorem dX5_isOverdue_21 : decode cX5_isOverdue 21 = .ok (.getfield 21, 3) := by decide +kernel
theorem dX5_isOverdue_24 : decode cX5_isOverdue 24 = .ok (.iload_n 3, 1) := by decide +kernel
theorem dX5_isOverdue_25 : decode cX5_isOverdue 25 = .ok (.iaload, 1) := by decide +kernel
theorem dX5_isOverdue_26 : decode cX5_isOverdue 26 = .ok (.ifCond .le 15, 3) := by decide +kernel
theorem dX5_isOverdue_29 : decode cX5_isOverdue 29 = .ok (.aload_n 0, 1) := by decide +kernel
theorem dX5_isOverdue_30 : decode cX5_isOverdue 30 = .ok (.getfield 24, 3) := by decide +kernel
theorem dX5_isOverdue_33 : decode cX5_isOverdue 33 = .ok (.iload_n 3, 1) := by decide +kernel
theorem dX5_isOverdue_34 : decode cX5_isOverdue 34 = .ok (.iaload, 1) := by decide +kernel
theorem dX5_isOverdue_35 : decode cX5_isOverdue 35 = .ok (.iload_n 2, 1) := by decide +kernel
theorem dX5_isOverdue_36 : decode cX5_isOverdue 36 = .ok (.if_icmp .ge 5, 3) := by decide +kernel
theorem dX5_isOverdue_39 : decode cX5_isOverdue 39 = .ok (.iconst 1, 1) := by decide +kernel
theorem dX5_isOverdue_40 : decode cX5_isOverdue 40 = .ok (.ireturn, 1) := by decide +kernel
theorem dX5_isOverdue_41 : decode cX5_isOverdue 41 = .ok (.iinc 3 1, 3) := by decide +kernel
theorem dX5_isOverdue_44 : decode cX5_isOverdue 44 = .ok (.goto (-42), 3) := by decide +kernel
theorem dX5_isOverdue_47 : decode cX5_isOverdue 47 = .ok (.iconst 0, 1) := by decide +kernel
theorem dX5_isOverdue_48 : decode cX5_isOverdue 48 = .ok (.ireturn, 1) := by decide +kernel
theorem dX5_value_0 : decode cX5_value 0 = .ok (.iload_n 2, 1) := by decide +kernel
theorem dX5_value_1 : decode cX5_value 1 = .ok (.tableswitch 70 0 4 #[35, 42, 49, 56, 63], 35) := by decide +kernel
theorem dX5_value_36 : decode cX5_value 36 = .ok (.aload_n 0, 1) := by decide +kernel
theorem dX5_value_37 : decode cX5_value 37 = .ok (.getfield 9, 3) := by decide +kernel
theorem dX5_value_40 : decode cX5_value 40 = .ok (.iload_n 1, 1) := by decide +kernel
theorem dX5_value_41 : decode cX5_value 41 = .ok (.iaload, 1) := by decide +kernel
theorem dX5_value_42 : decode cX5_value 42 = .ok (.ireturn, 1) := by decide +kernel
theorem dX5_value_43 : decode cX5_value 43 = .ok (.aload_n 0, 1) := by decide +kernel
theorem dX5_value_44 : decode cX5_value 44 = .ok (.getfield 15, 3) := by decide +kernel
theorem dX5_value_47 : decode cX5_value 47 = .ok (.iload_n 1, 1) := by decide +kernel
theorem dX5_value_48 : decode cX5_value 48 = .ok (.iaload, 1) := by decide +kernel
theorem dX5_value_49 : decode cX5_value 49 = .ok (.ireturn, 1) := by decide +kernel
theorem dX5_value_50 : decode cX5_value 50 = .ok (.aload_n 0, 1) := by decide +kernel
theorem dX5_value_51 : decode cX5_value 51 = .ok (.getfield 18, 3) := by decide +kernel
theorem dX5_value_54 : decode cX5_value 54 = .ok (.iload_n 1, 1) := by decide +kernel
theorem dX5_value_55 : decode cX5_value 55 = .ok (.iaload, 1) := by decide +kernel
theorem dX5_value_56 : decode cX5_value 56 = .ok (.ireturn, 1) := by decide +kernel
theorem dX5_value_57 : decode cX5_value 57 = .ok (.aload_n 0, 1) := by decide +kernel
theorem dX5_value_58 : decode cX5_value 58 = .ok (.getfield 21, 3) := by decide +kernel
theorem dX5_value_61 : decode cX5_value 61 = .ok (.iload_n 1, 1) := by decide +kernel
theorem dX5_value_62 : decode cX5_value 62 = .ok (.iaload, 1) := by decide +kernel
theorem dX5_value_63 : decode cX5_value 63 = .ok (.ireturn, 1) := by decide +kernel
theorem dX5_value_64 : decode cX5_value 64 = .ok (.aload_n 0, 1) := by decide +kernel
theorem dX5_value_65 : decode cX5_value 65 = .ok (.getfield 24, 3) := by decide +kernel
theorem dX5_value_68 : decode cX5_value 68 = .ok (.iload_n 1, 1) := by decide +kernel
theorem dX5_value_69 : decode cX5_value 69 = .ok (.iaload, 1) := by decide +kernel
theorem dX5_value_70 : decode cX5_value 70 = .ok (.ireturn, 1) := by decide +kernel
theorem dX5_value_71 : decode cX5_value 71 = .ok (.aload_n 0, 1) := by decide +kernel
theorem dX5_value_72 : decode cX5_value 72 = .ok (.getfield 27, 3) := by decide +kernel
theorem dX5_value_75 : decode cX5_value 75 = .ok (.iload_n 1, 1) := by decide +kernel
theorem dX5_value_76 : decode cX5_value 76 = .ok (.iaload, 1) := by decide +kernel
theorem dX5_value_77 : decode cX5_value 77 = .ok (.ireturn, 1) := by decide +kernel
theorem dX6_init_0 : decode cX6_init 0 = .ok (.aload_n 0, 1) := by decide +kernel
theorem dX6_init_1 : decode cX6_init 1 = .ok (.invokespecial 3, 3) := by decide +kernel
theorem dX6_init_4 : decode cX6_init 4 = .ok (.aload_n 0, 1) := by decide +kernel
theorem dX6_init_5 : decode cX6_init 5 = .ok (.bipush 6, 2) := by decide +kernel
theorem dX6_init_7 : decode cX6_init 7 = .ok (.newarray .int, 2) := by decide +kernel
theorem dX6_init_9 : decode cX6_init 9 = .ok (.putfield 9, 3) := by decide +kernel
theorem dX6_init_12 : decode cX6_init 12 = .ok (.aload_n 0, 1) := by decide +kernel
theorem dX6_init_13 : decode cX6_init 13 = .ok (.bipush 6, 2) := by decide +kernel
theorem dX6_init_15 : decode cX6_init 15 = .ok (.newarray .int, 2) := by decide +kernel
theorem dX6_init_17 : decode cX6_init 17 = .ok (.putfield 15, 3) := by decide +kernel
theorem dX6_init_20 : decode cX6_init 20 = .ok (.aload_n 0, 1) := by decide +kernel
theorem dX6_init_21 : decode cX6_init 21 = .ok (.bipush 6, 2) := by decide +kernel
theorem dX6_init_23 : decode cX6_init 23 = .ok (.newarray .int, 2) := by decide +kernel
theorem dX6_init_25 : decode cX6_init 25 = .ok (.putfield 18, 3) := by decide +kernel
theorem dX6_init_28 : decode cX6_init 28 = .ok (.aload_n 0, 1) := by decide +kernel
theorem dX6_init_29 : decode cX6_init 29 = .ok (.bipush 6, 2) := by decide +kernel
theorem dX6_init_31 : decode cX6_init 31 = .ok (.newarray .int, 2) := by decide +kernel
theorem dX6_init_33 : decode cX6_init 33 = .ok (.putfield 21, 3) := by decide +kernel
theorem dX6_init_36 : decode cX6_init 36 = .ok (.return_, 1) := by decide +kernel
theorem dX6_copyFrom_0 : decode cX6_copyFrom 0 = .ok (.aload_n 0, 1) := by decide +kernel
theorem dX6_copyFrom_1 : decode cX6_copyFrom 1 = .ok (.aload_n 1, 1) := by decide +kernel
theorem dX6_copyFrom_2 : decode cX6_copyFrom 2 = .ok (.getfield 24, 3) := by decide +kernel
theorem dX6_copyFrom_5 : decode cX6_copyFrom 5 = .ok (.putfield 24, 3) := by decide +kernel
theorem dX6_copyFrom_8 : decode cX6_copyFrom 8 = .ok (.aload_n 1, 1) := by decide +kernel
theorem dX6_copyFrom_9 : decode cX6_copyFrom 9 = .ok (.getfield 9, 3) := by decide +kernel
theorem dX6_copyFrom_12 : decode cX6_copyFrom 12 = .ok (.iconst 0, 1) := by decide +kernel
theorem dX6_copyFrom_13 : decode cX6_copyFrom 13 = .ok (.aload_n 0, 1) := by decide +kernel
theorem dX6_copyFrom_14 : decode cX6_copyFrom 14 = .ok (.getfield 9, 3) := by decide +kernel
theorem dX6_copyFrom_17 : decode cX6_copyFrom 17 = .ok (.iconst 0, 1) := by decide +kernel
theorem dX6_copyFrom_18 : decode cX6_copyFrom 18 = .ok (.bipush 6, 2) := by decide +kernel
theorem dX6_copyFrom_20 : decode cX6_copyFrom 20 = .ok (.invokestatic 28, 3) := by decide +kernel
theorem dX6_copyFrom_23 : decode cX6_copyFrom 23 = .ok (.aload_n 1, 1) := by decide +kernel
theorem dX6_copyFrom_24 : decode cX6_copyFrom 24 = .ok (.getfield 15, 3) := by decide +kernel
theorem dX6_copyFrom_27 : decode cX6_copyFrom 27 = .ok (.iconst 0, 1) := by decide +kernel
theorem dX6_copyFrom_28 : decode cX6_copyFrom 28 = .ok (.aload_n 0, 1) := by decide +kernel
theorem dX6_copyFrom_29 : decode cX6_copyFrom 29 = .ok (.getfield 15, 3) := by decide +kernel
theorem dX6_copyFrom_32 : decode cX6_copyFrom 32 = .ok (.iconst 0, 1) := by decide +kernel
theorem dX6_copyFrom_33 : decode cX6_copyFrom 33 = .ok (.bipush 6, 2) := by decide +kernel
theorem dX6_copyFrom_35 : decode cX6_copyFrom 35 = .ok (.invokestatic 28, 3) := by decide +kernel
theorem dX6_copyFrom_38 : decode cX6_copyFrom 38 = .ok (.aload_n 1, 1) := by decide +kernel
theorem dX6_copyFrom_39 : decode cX6_copyFrom 39 = .ok (.getfield 18, 3) := by decide +kernel
theorem dX6_copyFrom_42 : decode cX6_copyFrom 42 = .ok (.iconst 0, 1) := by decide +kernel
theorem dX6_copyFrom_43 : decode cX6_copyFrom 43 = .ok (.aload_n 0, 1) := by decide +kernel
theorem dX6_copyFrom_44 : decode cX6_copyFrom 44 = .ok (.getfield 18, 3) := by decide +kernel
theorem dX6_copyFrom_47 : decode cX6_copyFrom 47 = .ok (.iconst 0, 1) := by decide +kernel
theorem dX6_copyFrom_48 : decode cX6_copyFrom 48 = .ok (.bipush 6, 2) := by decide +kernel
theorem dX6_copyFrom_50 : decode cX6_copyFrom 50 = .ok (.invokestatic 28, 3) := by decide +kernel
theorem dX6_copyFrom_53 : decode cX6_copyFrom 53 = .ok (.aload_n 1, 1) := by decide +kernel
theorem dX6_copyFrom_54 : decode cX6_copyFrom 54 = .ok (.getfield 21, 3) := by decide +kernel
theorem dX6_copyFrom_57 : decode cX6_copyFrom 57 = .ok (.iconst 0, 1) := by decide +kernel
theorem dX6_copyFrom_58 : decode cX6_copyFrom 58 = .ok (.aload_n 0, 1) := by decide +kernel
theorem dX6_copyFrom_59 : decode cX6_copyFrom 59 = .ok (.getfield 21, 3) := by decide +kernel
theorem dX6_copyFrom_62 : decode cX6_copyFrom 62 = .ok (.iconst 0, 1) := by decide +kernel
theorem dX6_copyFrom_63 : decode cX6_copyFrom 63 = .ok (.bipush 6, 2) := by decide +kernel
theorem dX6_copyFrom_65 : decode cX6_copyFrom 65 = .ok (.invokestatic 28, 3) := by decide +kernel
theorem dX6_copyFrom_68 : decode cX6_copyFrom 68 = .ok (.return_, 1) := by decide +kernel
theorem dX6_has_0 : decode cX6_has 0 = .ok (.iload_n 1, 1) := by decide +kernel
theorem dX6_has_1 : decode cX6_has 1 = .ok (.ifCond .lt 15, 3) := by decide +kernel
theorem dX6_has_4 : decode cX6_has 4 = .ok (.iload_n 1, 1) := by decide +kernel
theorem dX6_has_5 : decode cX6_has 5 = .ok (.aload_n 0, 1) := by decide +kernel
theorem dX6_has_6 : decode cX6_has 6 = .ok (.getfield 24, 3) := by decide +kernel
theorem dX6_has_9 : decode cX6_has 9 = .ok (.if_icmp .ge 7, 3) := by decide +kernel
theorem dX6_has_12 : decode cX6_has 12 = .ok (.iconst 1, 1) := by decide +kernel
theorem dX6_has_13 : decode cX6_has 13 = .ok (.goto 4, 3) := by decide +kernel
theorem dX6_has_16 : decode cX6_has 16 = .ok (.iconst 0, 1) := by decide +kernel
theorem dX6_has_17 : decode cX6_has 17 = .ok (.ireturn, 1) := by decide +kernel
theorem dX6_append_0 : decode cX6_append 0 = .ok (.aload_n 0, 1) := by decide +kernel
theorem dX6_append_1 : decode cX6_append 1 = .ok (.getfield 24, 3) := by decide +kernel
theorem dX6_append_4 : decode cX6_append 4 = .ok (.istore_n 2, 1) := by decide +kernel
theorem dX6_append_5 : decode cX6_append 5 = .ok (.aload_n 0, 1) := by decide +kernel
theorem dX6_append_6 : decode cX6_append 6 = .ok (.getfield 9, 3) := by decide +kernel
theorem dX6_append_9 : decode cX6_append 9 = .ok (.iload_n 2, 1) := by decide +kernel
theorem dX6_append_10 : decode cX6_append 10 = .ok (.iload_n 1, 1) := by decide +kernel
theorem dX6_append_11 : decode cX6_append 11 = .ok (.iastore, 1) := by decide +kernel
theorem dX6_append_12 : decode cX6_append 12 = .ok (.aload_n 0, 1) := by decide +kernel
theorem dX6_append_13 : decode cX6_append 13 = .ok (.getfield 15, 3) := by decide +kernel
theorem dX6_append_16 : decode cX6_append 16 = .ok (.iload_n 2, 1) := by decide +kernel
theorem dX6_append_17 : decode cX6_append 17 = .ok (.iload_n 1, 1) := by decide +kernel
theorem dX6_append_18 : decode cX6_append 18 = .ok (.iastore, 1) := by decide +kernel
theorem dX6_append_19 : decode cX6_append 19 = .ok (.aload_n 0, 1) := by decide +kernel
theorem dX6_append_20 : decode cX6_append 20 = .ok (.getfield 18, 3) := by decide +kernel
theorem dX6_append_23 : decode cX6_append 23 = .ok (.iload_n 2, 1) := by decide +kernel
theorem dX6_append_24 : decode cX6_append 24 = .ok (.iconst 0, 1) := by decide +kernel
theorem dX6_append_25 : decode cX6_append 25 = .ok (.iastore, 1) := by decide +kernel
theorem dX6_append_26 : decode cX6_append 26 = .ok (.aload_n 0, 1) := by decide +kernel
theorem dX6_append_27 : decode cX6_append 27 = .ok (.getfield 21, 3) := by decide +kernel
theorem dX6_append_30 : decode cX6_append 30 = .ok (.iload_n 2, 1) := by decide +kernel
theorem dX6_append_31 : decode cX6_append 31 = .ok (.iconst 0, 1) := by decide +kernel
theorem dX6_append_32 : decode cX6_append 32 = .ok (.iastore, 1) := by decide +kernel
theorem dX6_append_33 : decode cX6_append 33 = .ok (.aload_n 0, 1) := by decide +kernel
theorem dX6_append_34 : decode cX6_append 34 = .ok (.dup, 1) := by decide +kernel
theorem dX6_append_35 : decode cX6_append 35 = .ok (.getfield 24, 3) := by decide +kernel
theorem dX6_append_38 : decode cX6_append 38 = .ok (.iconst 1, 1) := by decide +kernel
theorem dX6_append_39 : decode cX6_append 39 = .ok (.iadd, 1) := by decide +kernel
theorem dX6_append_40 : decode cX6_append 40 = .ok (.putfield 24, 3) := by decide +kernel
theorem dX6_append_43 : decode cX6_append 43 = .ok (.iload_n 2, 1) := by decide +kernel
theorem dX6_append_44 : decode cX6_append 44 = .ok (.ireturn, 1) := by decide +kernel
theorem dX6_earn_0 : decode cX6_earn 0 = .ok (.iconst 0, 1) := by decide +kernel
theorem dX6_earn_1 : decode cX6_earn 1 = .ok (.iload_n 2, 1) := by decide +kernel
theorem dX6_earn_2 : decode cX6_earn 2 = .ok (.iload_n 3, 1) := by decide +kernel
theorem dX6_earn_3 : decode cX6_earn 3 = .ok (.aload_n 0, 1) := by decide +kernel
theorem dX6_earn_4 : decode cX6_earn 4 = .ok (.getfield 9, 3) := by decide +kernel
theorem dX6_earn_7 : decode cX6_earn 7 = .ok (.iload_n 1, 1) := by decide +kernel
theorem dX6_earn_8 : decode cX6_earn 8 = .ok (.iaload, 1) := by decide +kernel
theorem dX6_earn_9 : decode cX6_earn 9 = .ok (.isub, 1) := by decide +kernel
theorem dX6_earn_10 : decode cX6_earn 10 = .ok (.invokestatic 34, 3) := by decide +kernel
theorem dX6_earn_13 : decode cX6_earn 13 = .ok (.invokestatic 40, 3) := by decide +kernel
theorem dX6_earn_16 : decode cX6_earn 16 = .ok (.istore 4, 2) := by decide +kernel
theorem dX6_earn_18 : decode cX6_earn 18 = .ok (.aload_n 0, 1) := by decide +kernel
theorem dX6_earn_19 : decode cX6_earn 19 = .ok (.getfield 9, 3) := by decide +kernel
theorem dX6_earn_22 : decode cX6_earn 22 = .ok (.iload_n 1, 1) := by decide +kernel
theorem dX6_earn_23 : decode cX6_earn 23 = .ok (.dup2, 1) := by decide +kernel
theorem dX6_earn_24 : decode cX6_earn 24 = .ok (.iaload, 1) := by decide +kernel
theorem dX6_earn_25 : decode cX6_earn 25 = .ok (.iload 4, 2) := by decide +kernel
theorem dX6_earn_27 : decode cX6_earn 27 = .ok (.iadd, 1) := by decide +kernel
theorem dX6_earn_28 : decode cX6_earn 28 = .ok (.iastore, 1) := by decide +kernel
theorem dX6_earn_29 : decode cX6_earn 29 = .ok (.aload_n 0, 1) := by decide +kernel
theorem dX6_earn_30 : decode cX6_earn 30 = .ok (.getfield 18, 3) := by decide +kernel
theorem dX6_earn_33 : decode cX6_earn 33 = .ok (.iload_n 1, 1) := by decide +kernel
theorem dX6_earn_34 : decode cX6_earn 34 = .ok (.dup2, 1) := by decide +kernel
theorem dX6_earn_35 : decode cX6_earn 35 = .ok (.iaload, 1) := by decide +kernel
theorem dX6_earn_36 : decode cX6_earn 36 = .ok (.iload 4, 2) := by decide +kernel
theorem dX6_earn_38 : decode cX6_earn 38 = .ok (.iadd, 1) := by decide +kernel
theorem dX6_earn_39 : decode cX6_earn 39 = .ok (.iastore, 1) := by decide +kernel
theorem dX6_earn_40 : decode cX6_earn 40 = .ok (.iload 4, 2) := by decide +kernel
theorem dX6_earn_42 : decode cX6_earn 42 = .ok (.ireturn, 1) := by decide +kernel
theorem dX6_richestOther_0 : decode cX6_richestOther 0 = .ok (.iconst (-1), 1) := by decide +kernel
theorem dX6_richestOther_1 : decode cX6_richestOther 1 = .ok (.istore_n 3, 1) := by decide +kernel
theorem dX6_richestOther_2 : decode cX6_richestOther 2 = .ok (.iconst 0, 1) := by decide +kernel
theorem dX6_richestOther_3 : decode cX6_richestOther 3 = .ok (.istore 4, 2) := by decide +kernel
theorem dX6_richestOther_5 : decode cX6_richestOther 5 = .ok (.iload 4, 2) := by decide +kernel
theorem dX6_richestOther_7 : decode cX6_richestOther 7 = .ok (.aload_n 0, 1) := by decide +kernel
theorem dX6_richestOther_8 : decode cX6_richestOther 8 = .ok (.getfield 24, 3) := by decide +kernel
theorem dX6_richestOther_11 : decode cX6_richestOther 11 = .ok (.if_icmp .ge 49, 3) := by decide +kernel
theorem dX6_richestOther_14 : decode cX6_richestOther 14 = .ok (.iload 4, 2) := by decide +kernel
theorem dX6_richestOther_16 : decode cX6_richestOther 16 = .ok (.iload_n 1, 1) := by decide +kernel
theorem dX6_richestOther_17 : decode cX6_richestOther 17 = .ok (.if_icmp .eq 37, 3) := by decide +kernel
theorem dX6_richestOther_20 : decode cX6_richestOther 20 = .ok (.aload_n 0, 1) := by decide +kernel
theorem dX6_richestOther_21 : decode cX6_richestOther 21 = .ok (.getfield 9, 3) := by decide +kernel
theorem dX6_richestOther_24 : decode cX6_richestOther 24 = .ok (.iload 4, 2) := by decide +kernel
theorem dX6_richestOther_26 : decode cX6_richestOther 26 = .ok (.iaload, 1) := by decide +kernel
theorem dX6_richestOther_27 : decode cX6_richestOther 27 = .ok (.iload_n 2, 1) := by decide +kernel
theorem dX6_richestOther_28 : decode cX6_richestOther 28 = .ok (.if_icmp .lt 26, 3) := by decide +kernel
theorem dX6_richestOther_31 : decode cX6_richestOther 31 = .ok (.iload_n 3, 1) := by decide +kernel
theorem dX6_richestOther_32 : decode cX6_richestOther 32 = .ok (.ifCond .lt 19, 3) := by decide +kernel
theorem dX6_richestOther_35 : decode cX6_richestOther 35 = .ok (.aload_n 0, 1) := by decide +kernel
theorem dX6_richestOther_36 : decode cX6_richestOther 36 = .ok (.getfield 9, 3) := by decide +kernel
theorem dX6_richestOther_39 : decode cX6_richestOther 39 = .ok (.iload 4, 2) := by decide +kernel
theorem dX6_richestOther_41 : decode cX6_richestOther 41 = .ok (.iaload, 1) := by decide +kernel
theorem dX6_richestOther_42 : decode cX6_richestOther 42 = .ok (.aload_n 0, 1) := by decide +kernel
theorem dX6_richestOther_43 : decode cX6_richestOther 43 = .ok (.getfield 9, 3) := by decide +kernel
theorem dX6_richestOther_46 : decode cX6_richestOther 46 = .ok (.iload_n 3, 1) := by decide +kernel
theorem dX6_richestOther_47 : decode cX6_richestOther 47 = .ok (.iaload, 1) := by decide +kernel
theorem dX6_richestOther_48 : decode cX6_richestOther 48 = .ok (.if_icmp .le 6, 3) := by decide +kernel
theorem dX6_richestOther_51 : decode cX6_richestOther 51 = .ok (.iload 4, 2) := by decide +kernel
theorem dX6_richestOther_53 : decode cX6_richestOther 53 = .ok (.istore_n 3, 1) := by decide +kernel
theorem dX6_richestOther_54 : decode cX6_richestOther 54 = .ok (.iinc 4 1, 3) := by decide +kernel
theorem dX6_richestOther_57 : decode cX6_richestOther 57 = .ok (.goto (-52), 3) := by decide +kernel
theorem dX6_richestOther_60 : decode cX6_richestOther 60 = .ok (.iload_n 3, 1) := by decide +kernel
theorem dX6_richestOther_61 : decode cX6_richestOther 61 = .ok (.ireturn, 1) := by decide +kernel
theorem dX8_init_0 : decode cX8_init 0 = .ok (.aload_n 0, 1) := by decide +kernel
theorem dX8_init_1 : decode cX8_init 1 = .ok (.invokespecial 3, 3) := by decide +kernel
theorem dX8_init_4 : decode cX8_init 4 = .ok (.aload_n 0, 1) := by decide +kernel
theorem dX8_init_5 : decode cX8_init 5 = .ok (.new 9, 3) := by decide +kernel
theorem dX8_init_8 : decode cX8_init 8 = .ok (.dup, 1) := by decide +kernel
theorem dX8_init_9 : decode cX8_init 9 = .ok (.invokespecial 11, 3) := by decide +kernel
theorem dX8_init_12 : decode cX8_init 12 = .ok (.putfield 12, 3) := by decide +kernel
theorem dX8_init_15 : decode cX8_init 15 = .ok (.aload_n 0, 1) := by decide +kernel
theorem dX8_init_16 : decode cX8_init 16 = .ok (.new 9, 3) := by decide +kernel
theorem dX8_init_19 : decode cX8_init 19 = .ok (.dup, 1) := by decide +kernel
theorem dX8_init_20 : decode cX8_init 20 = .ok (.invokespecial 11, 3) := by decide +kernel
theorem dX8_init_23 : decode cX8_init 23 = .ok (.putfield 16, 3) := by decide +kernel
theorem dX8_init_26 : decode cX8_init 26 = .ok (.aload_n 0, 1) := by decide +kernel
theorem dX8_init_27 : decode cX8_init 27 = .ok (.new 19, 3) := by decide +kernel
theorem dX8_init_30 : decode cX8_init 30 = .ok (.dup, 1) := by decide +kernel
theorem dX8_init_31 : decode cX8_init 31 = .ok (.invokespecial 21, 3) := by decide +kernel
theorem dX8_init_34 : decode cX8_init 34 = .ok (.putfield 22, 3) := by decide +kernel
theorem dX8_init_37 : decode cX8_init 37 = .ok (.aload_n 0, 1) := by decide +kernel
theorem dX8_init_38 : decode cX8_init 38 = .ok (.new 26, 3) := by decide +kernel
theorem dX8_init_41 : decode cX8_init 41 = .ok (.dup, 1) := by decide +kernel
theorem dX8_init_42 : decode cX8_init 42 = .ok (.invokespecial 28, 3) := by decide +kernel
theorem dX8_init_45 : decode cX8_init 45 = .ok (.putfield 29, 3) := by decide +kernel
theorem dX8_init_48 : decode cX8_init 48 = .ok (.return_, 1) := by decide +kernel
theorem dX8_addTeam_0 : decode cX8_addTeam 0 = .ok (.aload_n 0, 1) := by decide +kernel
theorem dX8_addTeam_1 : decode cX8_addTeam 1 = .ok (.getfield 22, 3) := by decide +kernel
theorem dX8_addTeam_4 : decode cX8_addTeam 4 = .ok (.aload_n 0, 1) := by decide +kernel
theorem dX8_addTeam_5 : decode cX8_addTeam 5 = .ok (.getfield 12, 3) := by decide +kernel
theorem dX8_addTeam_8 : decode cX8_addTeam 8 = .ok (.invokevirtual 33, 3) := by decide +kernel
theorem dX8_addTeam_11 : decode cX8_addTeam 11 = .ok (.aload_n 0, 1) := by decide +kernel
theorem dX8_addTeam_12 : decode cX8_addTeam 12 = .ok (.aload_n 0, 1) := by decide +kernel
theorem dX8_addTeam_13 : decode cX8_addTeam 13 = .ok (.getfield 12, 3) := by decide +kernel
theorem dX8_addTeam_16 : decode cX8_addTeam 16 = .ok (.iload_n 1, 1) := by decide +kernel
theorem dX8_addTeam_17 : decode cX8_addTeam 17 = .ok (.invokevirtual 37, 3) := by decide +kernel
theorem dX8_addTeam_20 : decode cX8_addTeam 20 = .ok (.invokevirtual 41, 3) := by decide +kernel
theorem dX8_addTeam_23 : decode cX8_addTeam 23 = .ok (.ireturn, 1) := by decide +kernel
theorem dX8_freeze_0 : decode cX8_freeze 0 = .ok (.aload_n 0, 1) := by decide +kernel
theorem dX8_freeze_1 : decode cX8_freeze 1 = .ok (.getfield 22, 3) := by decide +kernel
theorem dX8_freeze_4 : decode cX8_freeze 4 = .ok (.aload_n 0, 1) := by decide +kernel
theorem dX8_freeze_5 : decode cX8_freeze 5 = .ok (.getfield 12, 3) := by decide +kernel
theorem dX8_freeze_8 : decode cX8_freeze 8 = .ok (.invokevirtual 33, 3) := by decide +kernel
theorem dX8_freeze_11 : decode cX8_freeze 11 = .ok (.aload_n 0, 1) := by decide +kernel
theorem dX8_freeze_12 : decode cX8_freeze 12 = .ok (.aload_n 0, 1) := by decide +kernel
theorem dX8_freeze_13 : decode cX8_freeze 13 = .ok (.getfield 12, 3) := by decide +kernel
theorem dX8_freeze_16 : decode cX8_freeze 16 = .ok (.iload_n 1, 1) := by decide +kernel
theorem dX8_freeze_17 : decode cX8_freeze 17 = .ok (.iload_n 2, 1) := by decide +kernel
theorem dX8_freeze_18 : decode cX8_freeze 18 = .ok (.iload_n 3, 1) := by decide +kernel
theorem dX8_freeze_19 : decode cX8_freeze 19 = .ok (.invokevirtual 44, 3) := by decide +kernel
theorem dX8_freeze_22 : decode cX8_freeze 22 = .ok (.invokevirtual 41, 3) := by decide +kernel
theorem dX8_freeze_25 : decode cX8_freeze 25 = .ok (.ireturn, 1) := by decide +kernel
theorem dX8_set_0 : decode cX8_set 0 = .ok (.aload_n 0, 1) := by decide +kernel
theorem dX8_set_1 : decode cX8_set 1 = .ok (.getfield 22, 3) := by decide +kernel
theorem dX8_set_4 : decode cX8_set 4 = .ok (.aload_n 0, 1) := by decide +kernel
theorem dX8_set_5 : decode cX8_set 5 = .ok (.getfield 12, 3) := by decide +kernel
theorem dX8_set_8 : decode cX8_set 8 = .ok (.invokevirtual 33, 3) := by decide +kernel
theorem dX8_set_11 : decode cX8_set 11 = .ok (.aload_n 0, 1) := by decide +kernel
theorem dX8_set_12 : decode cX8_set 12 = .ok (.aload_n 0, 1) := by decide +kernel
theorem dX8_set_13 : decode cX8_set 13 = .ok (.getfield 12, 3) := by decide +kernel
theorem dX8_set_16 : decode cX8_set 16 = .ok (.iload_n 1, 1) := by decide +kernel
theorem dX8_set_17 : decode cX8_set 17 = .ok (.iload_n 2, 1) := by decide +kernel
theorem dX8_set_18 : decode cX8_set 18 = .ok (.invokevirtual 48, 3) := by decide +kernel
theorem dX8_set_21 : decode cX8_set 21 = .ok (.invokevirtual 41, 3) := by decide +kernel
theorem dX8_set_24 : decode cX8_set 24 = .ok (.ireturn, 1) := by decide +kernel
theorem dX8_endWeek_0 : decode cX8_endWeek 0 = .ok (.aload_n 0, 1) := by decide +kernel
theorem dX8_endWeek_1 : decode cX8_endWeek 1 = .ok (.getfield 22, 3) := by decide +kernel
theorem dX8_endWeek_4 : decode cX8_endWeek 4 = .ok (.aload_n 0, 1) := by decide +kernel
theorem dX8_endWeek_5 : decode cX8_endWeek 5 = .ok (.getfield 12, 3) := by decide +kernel
theorem dX8_endWeek_8 : decode cX8_endWeek 8 = .ok (.invokevirtual 33, 3) := by decide +kernel
theorem dX8_endWeek_11 : decode cX8_endWeek 11 = .ok (.aload_n 0, 1) := by decide +kernel
theorem dX8_endWeek_12 : decode cX8_endWeek 12 = .ok (.aload_n 0, 1) := by decide +kernel
theorem dX8_endWeek_13 : decode cX8_endWeek 13 = .ok (.getfield 12, 3) := by decide +kernel
theorem dX8_endWeek_16 : decode cX8_endWeek 16 = .ok (.invokevirtual 52, 3) := by decide +kernel
theorem dX8_endWeek_19 : decode cX8_endWeek 19 = .ok (.invokevirtual 41, 3) := by decide +kernel
theorem dX8_endWeek_22 : decode cX8_endWeek 22 = .ok (.ireturn, 1) := by decide +kernel
theorem dX8_ask_0 : decode cX8_ask 0 = .ok (.aload_n 0, 1) := by decide +kernel
theorem dX8_ask_1 : decode cX8_ask 1 = .ok (.getfield 22, 3) := by decide +kernel
theorem dX8_ask_4 : decode cX8_ask 4 = .ok (.aload_n 0, 1) := by decide +kernel
theorem dX8_ask_5 : decode cX8_ask 5 = .ok (.getfield 12, 3) := by decide +kernel
theorem dX8_ask_8 : decode cX8_ask 8 = .ok (.invokevirtual 33, 3) := by decide +kernel
theorem dX8_ask_11 : decode cX8_ask 11 = .ok (.aload_n 0, 1) := by decide +kernel
theorem dX8_ask_12 : decode cX8_ask 12 = .ok (.aload_n 0, 1) := by decide +kernel
theorem dX8_ask_13 : decode cX8_ask 13 = .ok (.getfield 12, 3) := by decide +kernel
theorem dX8_ask_16 : decode cX8_ask 16 = .ok (.iload_n 1, 1) := by decide +kernel
theorem dX8_ask_17 : decode cX8_ask 17 = .ok (.iload_n 2, 1) := by decide +kernel
theorem dX8_ask_18 : decode cX8_ask 18 = .ok (.invokevirtual 56, 3) := by decide +kernel
theorem dX8_ask_21 : decode cX8_ask 21 = .ok (.invokevirtual 41, 3) := by decide +kernel
theorem dX8_ask_24 : decode cX8_ask 24 = .ok (.ireturn, 1) := by decide +kernel
theorem dX8_exempt_0 : decode cX8_exempt 0 = .ok (.aload_n 0, 1) := by decide +kernel
theorem dX8_exempt_1 : decode cX8_exempt 1 = .ok (.getfield 22, 3) := by decide +kernel
theorem dX8_exempt_4 : decode cX8_exempt 4 = .ok (.aload_n 0, 1) := by decide +kernel
theorem dX8_exempt_5 : decode cX8_exempt 5 = .ok (.getfield 12, 3) := by decide +kernel
theorem dX8_exempt_8 : decode cX8_exempt 8 = .ok (.invokevirtual 33, 3) := by decide +kernel
theorem dX8_exempt_11 : decode cX8_exempt 11 = .ok (.aload_n 0, 1) := by decide +kernel
theorem dX8_exempt_12 : decode cX8_exempt 12 = .ok (.aload_n 0, 1) := by decide +kernel
theorem dX8_exempt_13 : decode cX8_exempt 13 = .ok (.getfield 12, 3) := by decide +kernel
theorem dX8_exempt_16 : decode cX8_exempt 16 = .ok (.iload_n 1, 1) := by decide +kernel
theorem dX8_exempt_17 : decode cX8_exempt 17 = .ok (.invokevirtual 59, 3) := by decide +kernel
theorem dX8_exempt_20 : decode cX8_exempt 20 = .ok (.invokevirtual 41, 3) := by decide +kernel
theorem dX8_exempt_23 : decode cX8_exempt 23 = .ok (.ireturn, 1) := by decide +kernel
theorem dX8_make_0 : decode cX8_make 0 = .ok (.aload_n 0, 1) := by decide +kernel
theorem dX8_make_1 : decode cX8_make 1 = .ok (.getfield 22, 3) := by decide +kernel
theorem dX8_make_4 : decode cX8_make 4 = .ok (.aload_n 0, 1) := by decide +kernel
theorem dX8_make_5 : decode cX8_make 5 = .ok (.getfield 12, 3) := by decide +kernel
theorem dX8_make_8 : decode cX8_make 8 = .ok (.invokevirtual 33, 3) := by decide +kernel
theorem dX8_make_11 : decode cX8_make 11 = .ok (.aload_n 0, 1) := by decide +kernel
theorem dX8_make_12 : decode cX8_make 12 = .ok (.aload_n 0, 1) := by decide +kernel
theorem dX8_make_13 : decode cX8_make 13 = .ok (.getfield 12, 3) := by decide +kernel
theorem dX8_make_16 : decode cX8_make 16 = .ok (.iload_n 1, 1) := by decide +kernel
theorem dX8_make_17 : decode cX8_make 17 = .ok (.iload_n 2, 1) := by decide +kernel
theorem dX8_make_18 : decode cX8_make 18 = .ok (.invokevirtual 62, 3) := by decide +kernel
theorem dX8_make_21 : decode cX8_make 21 = .ok (.invokevirtual 41, 3) := by decide +kernel
theorem dX8_make_24 : decode cX8_make 24 = .ok (.ireturn, 1) := by decide +kernel
theorem dX8_giveUp_0 : decode cX8_giveUp 0 = .ok (.aload_n 0, 1) := by decide +kernel
theorem dX8_giveUp_1 : decode cX8_giveUp 1 = .ok (.getfield 22, 3) := by decide +kernel
theorem dX8_giveUp_4 : decode cX8_giveUp 4 = .ok (.aload_n 0, 1) := by decide +kernel
theorem dX8_giveUp_5 : decode cX8_giveUp 5 = .ok (.getfield 12, 3) := by decide +kernel
theorem dX8_giveUp_8 : decode cX8_giveUp 8 = .ok (.invokevirtual 33, 3) := by decide +kernel
theorem dX8_giveUp_11 : decode cX8_giveUp 11 = .ok (.aload_n 0, 1) := by decide +kernel
theorem dX8_giveUp_12 : decode cX8_giveUp 12 = .ok (.aload_n 0, 1) := by decide +kernel
theorem dX8_giveUp_13 : decode cX8_giveUp 13 = .ok (.getfield 12, 3) := by decide +kernel
theorem dX8_giveUp_16 : decode cX8_giveUp 16 = .ok (.iload_n 1, 1) := by decide +kernel
theorem dX8_giveUp_17 : decode cX8_giveUp 17 = .ok (.invokevirtual 66, 3) := by decide +kernel
theorem dX8_giveUp_20 : decode cX8_giveUp 20 = .ok (.invokevirtual 41, 3) := by decide +kernel
theorem dX8_giveUp_23 : decode cX8_giveUp 23 = .ok (.ireturn, 1) := by decide +kernel
theorem dX8_lend_0 : decode cX8_lend 0 = .ok (.aload_n 0, 1) := by decide +kernel
theorem dX8_lend_1 : decode cX8_lend 1 = .ok (.getfield 22, 3) := by decide +kernel
theorem dX8_lend_4 : decode cX8_lend 4 = .ok (.aload_n 0, 1) := by decide +kernel
theorem dX8_lend_5 : decode cX8_lend 5 = .ok (.getfield 12, 3) := by decide +kernel
theorem dX8_lend_8 : decode cX8_lend 8 = .ok (.invokevirtual 33, 3) := by decide +kernel
theorem dX8_lend_11 : decode cX8_lend 11 = .ok (.aload_n 0, 1) := by decide +kernel
theorem dX8_lend_12 : decode cX8_lend 12 = .ok (.aload_n 0, 1) := by decide +kernel
theorem dX8_lend_13 : decode cX8_lend 13 = .ok (.getfield 12, 3) := by decide +kernel
theorem dX8_lend_16 : decode cX8_lend 16 = .ok (.iload_n 1, 1) := by decide +kernel
theorem dX8_lend_17 : decode cX8_lend 17 = .ok (.iload_n 2, 1) := by decide +kernel
theorem dX8_lend_18 : decode cX8_lend 18 = .ok (.iload_n 3, 1) := by decide +kernel
theorem dX8_lend_19 : decode cX8_lend 19 = .ok (.iload 4, 2) := by decide +kernel
theorem dX8_lend_21 : decode cX8_lend 21 = .ok (.invokevirtual 69, 3) := by decide +kernel
theorem dX8_lend_24 : decode cX8_lend 24 = .ok (.invokevirtual 41, 3) := by decide +kernel
theorem dX8_lend_27 : decode cX8_lend 27 = .ok (.ireturn, 1) := by decide +kernel
theorem dX8_repay_0 : decode cX8_repay 0 = .ok (.aload_n 0, 1) := by decide +kernel
theorem dX8_repay_1 : decode cX8_repay 1 = .ok (.getfield 22, 3) := by decide +kernel
theorem dX8_repay_4 : decode cX8_repay 4 = .ok (.aload_n 0, 1) := by decide +kernel
theorem dX8_repay_5 : decode cX8_repay 5 = .ok (.getfield 12, 3) := by decide +kernel
theorem dX8_repay_8 : decode cX8_repay 8 = .ok (.invokevirtual 33, 3) := by decide +kernel
theorem dX8_repay_11 : decode cX8_repay 11 = .ok (.aload_n 0, 1) := by decide +kernel
theorem dX8_repay_12 : decode cX8_repay 12 = .ok (.aload_n 0, 1) := by decide +kernel
theorem dX8_repay_13 : decode cX8_repay 13 = .ok (.getfield 12, 3) := by decide +kernel
theorem dX8_repay_16 : decode cX8_repay 16 = .ok (.iload_n 1, 1) := by decide +kernel
theorem dX8_repay_17 : decode cX8_repay 17 = .ok (.iload_n 2, 1) := by decide +kernel
theorem dX8_repay_18 : decode cX8_repay 18 = .ok (.invokevirtual 73, 3) := by decide +kernel
theorem dX8_repay_21 : decode cX8_repay 21 = .ok (.invokevirtual 41, 3) := by decide +kernel
theorem dX8_repay_24 : decode cX8_repay 24 = .ok (.ireturn, 1) := by decide +kernel
theorem dX8_team_0 : decode cX8_team 0 = .ok (.aload_n 0, 1) := by decide +kernel
theorem dX8_team_1 : decode cX8_team 1 = .ok (.iload_n 1, 1) := by decide +kernel
theorem dX8_team_2 : decode cX8_team 2 = .ok (.invokevirtual 76, 3) := by decide +kernel
theorem dX8_team_5 : decode cX8_team 5 = .ok (.aload_n 0, 1) := by decide +kernel
theorem dX8_team_6 : decode cX8_team 6 = .ok (.iload_n 2, 1) := by decide +kernel
theorem dX8_team_7 : decode cX8_team 7 = .ok (.bipush 11, 2) := by decide +kernel
theorem dX8_team_9 : decode cX8_team 9 = .ok (.invokevirtual 80, 3) := by decide +kernel
theorem dX8_team_12 : decode cX8_team 12 = .ok (.aload_n 0, 1) := by decide +kernel
theorem dX8_team_13 : decode cX8_team 13 = .ok (.getfield 12, 3) := by decide +kernel
theorem dX8_team_16 : decode cX8_team 16 = .ok (.iload_n 1, 1) := by decide +kernel
theorem dX8_team_17 : decode cX8_team 17 = .ok (.iload_n 2, 1) := by decide +kernel
theorem dX8_team_18 : decode cX8_team 18 = .ok (.invokevirtual 84, 3) := by decide +kernel
theorem dX8_team_21 : decode cX8_team 21 = .ok (.ireturn, 1) := by decide +kernel
theorem dX8_change_0 : decode cX8_change 0 = .ok (.aload_n 0, 1) := by decide +kernel
theorem dX8_change_1 : decode cX8_change 1 = .ok (.iload_n 1, 1) := by decide +kernel
theorem dX8_change_2 : decode cX8_change 2 = .ok (.invokevirtual 87, 3) := by decide +kernel
theorem dX8_change_5 : decode cX8_change 5 = .ok (.aload_n 0, 1) := by decide +kernel
theorem dX8_change_6 : decode cX8_change 6 = .ok (.iload_n 2, 1) := by decide +kernel
theorem dX8_change_7 : decode cX8_change 7 = .ok (.bipush 7, 2) := by decide +kernel
theorem dX8_change_9 : decode cX8_change 9 = .ok (.invokevirtual 80, 3) := by decide +kernel
theorem dX8_change_12 : decode cX8_change 12 = .ok (.aload_n 0, 1) := by decide +kernel
theorem dX8_change_13 : decode cX8_change 13 = .ok (.getfield 12, 3) := by decide +kernel
theorem dX8_change_16 : decode cX8_change 16 = .ok (.getfield 90, 3) := by decide +kernel
theorem dX8_change_19 : decode cX8_change 19 = .ok (.iload_n 1, 1) := by decide +kernel
theorem dX8_change_20 : decode cX8_change 20 = .ok (.iload_n 2, 1) := by decide +kernel
theorem dX8_change_21 : decode cX8_change 21 = .ok (.invokevirtual 94, 3) := by decide +kernel
theorem dX8_change_24 : decode cX8_change 24 = .ok (.ireturn, 1) := by decide +kernel
theorem dX8_loan_0 : decode cX8_loan 0 = .ok (.aload_n 0, 1) := by decide +kernel
theorem dX8_loan_1 : decode cX8_loan 1 = .ok (.getfield 12, 3) := by decide +kernel
theorem dX8_loan_4 : decode cX8_loan 4 = .ok (.getfield 99, 3) := by decide +kernel
theorem dX8_loan_7 : decode cX8_loan 7 = .ok (.iload_n 1, 1) := by decide +kernel
theorem dX8_loan_8 : decode cX8_loan 8 = .ok (.invokevirtual 103, 3) := by decide +kernel
theorem dX8_loan_11 : decode cX8_loan 11 = .ok (.ifCond .ne 13, 3) := by decide +kernel
theorem dX8_loan_14 : decode cX8_loan 14 = .ok (.new 109, 3) := by decide +kernel
theorem dX8_loan_17 : decode cX8_loan 17 = .ok (.dup, 1) := by decide +kernel
theorem dX8_loan_18 : decode cX8_loan 18 = .ok (.ldc 111, 2) := by decide +kernel
theorem dX8_loan_20 : decode cX8_loan 20 = .ok (.invokespecial 113, 3) := by decide +kernel
theorem dX8_loan_23 : decode cX8_loan 23 = .ok (.athrow, 1) := by decide +kernel
theorem dX8_loan_24 : decode cX8_loan 24 = .ok (.aload_n 0, 1) := by decide +kernel
theorem dX8_loan_25 : decode cX8_loan 25 = .ok (.iload_n 2, 1) := by decide +kernel
theorem dX8_loan_26 : decode cX8_loan 26 = .ok (.bipush 6, 2) := by decide +kernel
theorem dX8_loan_28 : decode cX8_loan 28 = .ok (.invokevirtual 80, 3) := by decide +kernel
theorem dX8_loan_31 : decode cX8_loan 31 = .ok (.aload_n 0, 1) := by decide +kernel
theorem dX8_loan_32 : decode cX8_loan 32 = .ok (.getfield 12, 3) := by decide +kernel
theorem dX8_loan_35 : decode cX8_loan 35 = .ok (.getfield 99, 3) := by decide +kernel
theorem dX8_loan_38 : decode cX8_loan 38 = .ok (.iload_n 1, 1) := by decide +kernel
theorem dX8_loan_39 : decode cX8_loan 39 = .ok (.iload_n 2, 1) := by decide +kernel
theorem dX8_loan_40 : decode cX8_loan 40 = .ok (.invokevirtual 116, 3) := by decide +kernel
theorem dX8_loan_43 : decode cX8_loan 43 = .ok (.ireturn, 1) := by decide +kernel
theorem dX8_waiting_0 : decode cX8_waiting 0 = .ok (.iload_n 1, 1) := by decide +kernel
theorem dX8_waiting_1 : decode cX8_waiting 1 = .ok (.ifCond .ge 13, 3) := by decide +kernel
theorem dX8_waiting_4 : decode cX8_waiting 4 = .ok (.new 117, 3) := by decide +kernel
theorem dX8_waiting_7 : decode cX8_waiting 7 = .ok (.dup, 1) := by decide +kernel
theorem dX8_waiting_8 : decode cX8_waiting 8 = .ok (.ldc 119, 2) := by decide +kernel
theorem dX8_waiting_10 : decode cX8_waiting 10 = .ok (.invokespecial 121, 3) := by decide +kernel
theorem dX8_waiting_13 : decode cX8_waiting 13 = .ok (.athrow, 1) := by decide +kernel
theorem dX8_waiting_14 : decode cX8_waiting 14 = .ok (.iload_n 1, 1) := by decide +kernel
theorem dX8_waiting_15 : decode cX8_waiting 15 = .ok (.aload_n 0, 1) := by decide +kernel
theorem dX8_waiting_16 : decode cX8_waiting 16 = .ok (.getfield 12, 3) := by decide +kernel
theorem dX8_waiting_19 : decode cX8_waiting 19 = .ok (.getfield 90, 3) := by decide +kernel
theorem dX8_waiting_22 : decode cX8_waiting 22 = .ok (.getfield 122, 3) := by decide +kernel
theorem dX8_waiting_25 : decode cX8_waiting 25 = .ok (.if_icmp .ge 18, 3) := by decide +kernel
theorem dX8_waiting_28 : decode cX8_waiting 28 = .ok (.aload_n 0, 1) := by decide +kernel
theorem dX8_waiting_29 : decode cX8_waiting 29 = .ok (.getfield 12, 3) := by decide +kernel
theorem dX8_waiting_32 : decode cX8_waiting 32 = .ok (.getfield 90, 3) := by decide +kernel
theorem dX8_waiting_35 : decode cX8_waiting 35 = .ok (.getfield 126, 3) := by decide +kernel
theorem dX8_waiting_38 : decode cX8_waiting 38 = .ok (.iload_n 1, 1) := by decide +kernel
theorem dX8_waiting_39 : decode cX8_waiting 39 = .ok (.iaload, 1) := by decide +kernel
theorem dX8_waiting_40 : decode cX8_waiting 40 = .ok (.goto 4, 3) := by decide +kernel
theorem dX8_waiting_43 : decode cX8_waiting 43 = .ok (.iconst (-1), 1) := by decide +kernel
theorem dX8_waiting_44 : decode cX8_waiting 44 = .ok (.ireturn, 1) := by decide +kernel
theorem dX8_frozen_0 : decode cX8_frozen 0 = .ok (.iload_n 1, 1) := by decide +kernel
theorem dX8_frozen_1 : decode cX8_frozen 1 = .ok (.ifCond .lt 9, 3) := by decide +kernel
theorem dX8_frozen_4 : decode cX8_frozen 4 = .ok (.iload_n 1, 1) := by decide +kernel
theorem dX8_frozen_5 : decode cX8_frozen 5 = .ok (.bipush 39, 2) := by decide +kernel
theorem dX8_frozen_7 : decode cX8_frozen 7 = .ok (.if_icmp .le 13, 3) := by decide +kernel
theorem dX8_frozen_10 : decode cX8_frozen 10 = .ok (.new 117, 3) := by decide +kernel
theorem dX8_frozen_13 : decode cX8_frozen 13 = .ok (.dup, 1) := by decide +kernel
theorem dX8_frozen_14 : decode cX8_frozen 14 = .ok (.ldc 130, 2) := by decide +kernel
theorem dX8_frozen_16 : decode cX8_frozen 16 = .ok (.invokespecial 121, 3) := by decide +kernel
theorem dX8_frozen_19 : decode cX8_frozen 19 = .ok (.athrow, 1) := by decide +kernel
theorem dX8_frozen_20 : decode cX8_frozen 20 = .ok (.aload_n 0, 1) := by decide +kernel
theorem dX8_frozen_21 : decode cX8_frozen 21 = .ok (.getfield 12, 3) := by decide +kernel
theorem dX8_frozen_24 : decode cX8_frozen 24 = .ok (.getfield 132, 3) := by decide +kernel
theorem dX8_frozen_27 : decode cX8_frozen 27 = .ok (.iload_n 1, 1) := by decide +kernel
theorem dX8_frozen_28 : decode cX8_frozen 28 = .ok (.baload, 1) := by decide +kernel
theorem dX8_frozen_29 : decode cX8_frozen 29 = .ok (.invokestatic 136, 3) := by decide +kernel
theorem dX8_frozen_32 : decode cX8_frozen 32 = .ok (.ireturn, 1) := by decide +kernel
theorem dX8_whole_0 : decode cX8_whole 0 = .ok (.aload_n 0, 1) := by decide +kernel
theorem dX8_whole_1 : decode cX8_whole 1 = .ok (.iload_n 1, 1) := by decide +kernel
theorem dX8_whole_2 : decode cX8_whole 2 = .ok (.bipush 18, 2) := by decide +kernel
theorem dX8_whole_4 : decode cX8_whole 4 = .ok (.invokevirtual 80, 3) := by decide +kernel
theorem dX8_whole_7 : decode cX8_whole 7 = .ok (.aload_n 0, 1) := by decide +kernel
theorem dX8_whole_8 : decode cX8_whole 8 = .ok (.iload_n 1, 1) := by decide +kernel
theorem dX8_whole_9 : decode cX8_whole 9 = .ok (.invokevirtual 140, 3) := by decide +kernel
theorem dX8_whole_12 : decode cX8_whole 12 = .ok (.ireturn, 1) := by decide +kernel
theorem dX8_reason_0 : decode cX8_reason 0 = .ok (.aload_n 0, 1) := by decide +kernel
theorem dX8_reason_1 : decode cX8_reason 1 = .ok (.iload_n 1, 1) := by decide +kernel
theorem dX8_reason_2 : decode cX8_reason 2 = .ok (.invokevirtual 87, 3) := by decide +kernel
theorem dX8_reason_5 : decode cX8_reason 5 = .ok (.aload_n 0, 1) := by decide +kernel
theorem dX8_reason_6 : decode cX8_reason 6 = .ok (.getfield 12, 3) := by decide +kernel
theorem dX8_reason_9 : decode cX8_reason 9 = .ok (.iload_n 1, 1) := by decide +kernel
theorem dX8_reason_10 : decode cX8_reason 10 = .ok (.invokevirtual 143, 3) := by decide +kernel
theorem dX8_reason_13 : decode cX8_reason 13 = .ok (.ireturn, 1) := by decide +kernel
theorem dX8_exemptible_0 : decode cX8_exemptible 0 = .ok (.aload_n 0, 1) := by decide +kernel
theorem dX8_exemptible_1 : decode cX8_exemptible 1 = .ok (.iload_n 1, 1) := by decide +kernel
theorem dX8_exemptible_2 : decode cX8_exemptible 2 = .ok (.invokevirtual 76, 3) := by decide +kernel
theorem dX8_exemptible_5 : decode cX8_exemptible 5 = .ok (.aload_n 0, 1) := by decide +kernel
theorem dX8_exemptible_6 : decode cX8_exemptible 6 = .ok (.getfield 12, 3) := by decide +kernel
theorem dX8_exemptible_9 : decode cX8_exemptible 9 = .ok (.iload_n 1, 1) := by decide +kernel
theorem dX8_exemptible_10 : decode cX8_exemptible 10 = .ok (.invokevirtual 146, 3) := by decide +kernel
theorem dX8_exemptible_13 : decode cX8_exemptible 13 = .ok (.ireturn, 1) := by decide +kernel
theorem dX8_weeksUntil_0 : decode cX8_weeksUntil 0 = .ok (.aload_n 0, 1) := by decide +kernel
theorem dX8_weeksUntil_1 : decode cX8_weeksUntil 1 = .ok (.iload_n 1, 1) := by decide +kernel
theorem dX8_weeksUntil_2 : decode cX8_weeksUntil 2 = .ok (.invokevirtual 76, 3) := by decide +kernel
theorem dX8_weeksUntil_5 : decode cX8_weeksUntil 5 = .ok (.aload_n 0, 1) := by decide +kernel
theorem dX8_weeksUntil_6 : decode cX8_weeksUntil 6 = .ok (.iload_n 2, 1) := by decide +kernel
theorem dX8_weeksUntil_7 : decode cX8_weeksUntil 7 = .ok (.invokevirtual 149, 3) := by decide +kernel
theorem dX8_weeksUntil_10 : decode cX8_weeksUntil 10 = .ok (.aload_n 0, 1) := by decide +kernel
theorem dX8_weeksUntil_11 : decode cX8_weeksUntil 11 = .ok (.getfield 12, 3) := by decide +kernel
theorem dX8_weeksUntil_14 : decode cX8_weeksUntil 14 = .ok (.iload_n 2, 1) := by decide +kernel
theorem dX8_weeksUntil_15 : decode cX8_weeksUntil 15 = .ok (.invokevirtual 152, 3) := by decide +kernel
theorem dX8_weeksUntil_18 : decode cX8_weeksUntil 18 = .ok (.istore_n 3, 1) := by decide +kernel
theorem dX8_weeksUntil_19 : decode cX8_weeksUntil 19 = .ok (.bipush 39, 2) := by decide +kernel
theorem dX8_weeksUntil_21 : decode cX8_weeksUntil 21 = .ok (.aload_n 0, 1) := by decide +kernel
theorem dX8_weeksUntil_22 : decode cX8_weeksUntil 22 = .ok (.getfield 12, 3) := by decide +kernel
theorem dX8_weeksUntil_25 : decode cX8_weeksUntil 25 = .ok (.getfield 155, 3) := by decide +kernel
theorem dX8_weeksUntil_28 : decode cX8_weeksUntil 28 = .ok (.isub, 1) := by decide +kernel
theorem dX8_weeksUntil_29 : decode cX8_weeksUntil 29 = .ok (.istore 4, 2) := by decide +kernel
theorem dX8_weeksUntil_31 : decode cX8_weeksUntil 31 = .ok (.aload_n 0, 1) := by decide +kernel
theorem dX8_weeksUntil_32 : decode cX8_weeksUntil 32 = .ok (.getfield 16, 3) := by decide +kernel
theorem dX8_weeksUntil_35 : decode cX8_weeksUntil 35 = .ok (.aload_n 0, 1) := by decide +kernel
theorem dX8_weeksUntil_36 : decode cX8_weeksUntil 36 = .ok (.getfield 12, 3) := by decide +kernel
theorem dX8_weeksUntil_39 : decode cX8_weeksUntil 39 = .ok (.invokevirtual 158, 3) := by decide +kernel
theorem dX8_weeksUntil_42 : decode cX8_weeksUntil 42 = .ok (.iconst 0, 1) := by decide +kernel
theorem dX8_weeksUntil_43 : decode cX8_weeksUntil 43 = .ok (.istore 5, 2) := by decide +kernel
theorem dX8_weeksUntil_45 : decode cX8_weeksUntil 45 = .ok (.iload 5, 2) := by decide +kernel
theorem dX8_weeksUntil_47 : decode cX8_weeksUntil 47 = .ok (.iload 4, 2) := by decide +kernel
theorem dX8_weeksUntil_49 : decode cX8_weeksUntil 49 = .ok (.if_icmp .gt 36, 3) := by decide +kernel
theorem dX8_weeksUntil_52 : decode cX8_weeksUntil 52 = .ok (.aload_n 0, 1) := by decide +kernel
theorem dX8_weeksUntil_53 : decode cX8_weeksUntil 53 = .ok (.getfield 16, 3) := by decide +kernel
theorem dX8_weeksUntil_56 : decode cX8_weeksUntil 56 = .ok (.getfield 161, 3) := by decide +kernel
theorem dX8_weeksUntil_59 : decode cX8_weeksUntil 59 = .ok (.getfield 165, 3) := by decide +kernel
theorem dX8_weeksUntil_62 : decode cX8_weeksUntil 62 = .ok (.iload_n 1, 1) := by decide +kernel
theorem dX8_weeksUntil_63 : decode cX8_weeksUntil 63 = .ok (.iaload, 1) := by decide +kernel
theorem dX8_weeksUntil_64 : decode cX8_weeksUntil 64 = .ok (.iload_n 3, 1) := by decide +kernel
theorem dX8_weeksUntil_65 : decode cX8_weeksUntil 65 = .ok (.if_icmp .lt 6, 3) := by decide +kernel
theorem dX8_weeksUntil_68 : decode cX8_weeksUntil 68 = .ok (.iload 5, 2) := by decide +kernel
theorem dX8_weeksUntil_70 : decode cX8_weeksUntil 70 = .ok (.ireturn, 1) := by decide +kernel
theorem dX8_weeksUntil_71 : decode cX8_weeksUntil 71 = .ok (.aload_n 0, 1) := by decide +kernel
theorem dX8_weeksUntil_72 : decode cX8_weeksUntil 72 = .ok (.getfield 16, 3) := by decide +kernel
theorem dX8_weeksUntil_75 : decode cX8_weeksUntil 75 = .ok (.invokevirtual 52, 3) := by decide +kernel
theorem dX8_weeksUntil_78 : decode cX8_weeksUntil 78 = .ok (.pop, 1) := by decide +kernel
theorem dX8_weeksUntil_79 : decode cX8_weeksUntil 79 = .ok (.iinc 5 1, 3) := by decide +kernel
theorem dX8_weeksUntil_82 : decode cX8_weeksUntil 82 = .ok (.goto (-37), 3) := by decide +kernel
theorem dX8_weeksUntil_85 : decode cX8_weeksUntil 85 = .ok (.iconst (-1), 1) := by decide +kernel
theorem dX8_weeksUntil_86 : decode cX8_weeksUntil 86 = .ok (.ireturn, 1) := by decide +kernel
theorem dX8_lender_0 : decode cX8_lender 0 = .ok (.aload_n 0, 1) := by decide +kernel
theorem dX8_lender_1 : decode cX8_lender 1 = .ok (.iload_n 1, 1) := by decide +kernel
theorem dX8_lender_2 : decode cX8_lender 2 = .ok (.invokevirtual 76, 3) := by decide +kernel
theorem dX8_lender_5 : decode cX8_lender 5 = .ok (.aload_n 0, 1) := by decide +kernel
theorem dX8_lender_6 : decode cX8_lender 6 = .ok (.iload_n 2, 1) := by decide +kernel
theorem dX8_lender_7 : decode cX8_lender 7 = .ok (.invokevirtual 149, 3) := by decide +kernel
theorem dX8_lender_10 : decode cX8_lender 10 = .ok (.aload_n 0, 1) := by decide +kernel
theorem dX8_lender_11 : decode cX8_lender 11 = .ok (.getfield 12, 3) := by decide +kernel
theorem dX8_lender_14 : decode cX8_lender 14 = .ok (.iload_n 2, 1) := by decide +kernel
theorem dX8_lender_15 : decode cX8_lender 15 = .ok (.invokevirtual 152, 3) := by decide +kernel
theorem dX8_lender_18 : decode cX8_lender 18 = .ok (.aload_n 0, 1) := by decide +kernel
theorem dX8_lender_19 : decode cX8_lender 19 = .ok (.getfield 12, 3) := by decide +kernel
theorem dX8_lender_22 : decode cX8_lender 22 = .ok (.getfield 161, 3) := by decide +kernel
theorem dX8_lender_25 : decode cX8_lender 25 = .ok (.getfield 165, 3) := by decide +kernel
theorem dX8_lender_28 : decode cX8_lender 28 = .ok (.iload_n 1, 1) := by decide +kernel
theorem dX8_lender_29 : decode cX8_lender 29 = .ok (.iaload, 1) := by decide +kernel
theorem dX8_lender_30 : decode cX8_lender 30 = .ok (.isub, 1) := by decide +kernel
theorem dX8_lender_31 : decode cX8_lender 31 = .ok (.istore_n 3, 1) := by decide +kernel
theorem dX8_lender_32 : decode cX8_lender 32 = .ok (.iload_n 3, 1) := by decide +kernel
theorem dX8_lender_33 : decode cX8_lender 33 = .ok (.ifCond .le 14, 3) := by decide +kernel
theorem dX8_lender_36 : decode cX8_lender 36 = .ok (.aload_n 0, 1) := by decide +kernel
theorem dX8_lender_37 : decode cX8_lender 37 = .ok (.getfield 12, 3) := by decide +kernel
theorem dX8_lender_40 : decode cX8_lender 40 = .ok (.iload_n 1, 1) := by decide +kernel
theorem dX8_lender_41 : decode cX8_lender 41 = .ok (.invokevirtual 170, 3) := by decide +kernel
theorem dX8_lender_44 : decode cX8_lender 44 = .ok (.ifCond .eq 5, 3) := by decide +kernel
theorem dX8_lender_47 : decode cX8_lender 47 = .ok (.iconst (-1), 1) := by decide +kernel
theorem dX8_lender_48 : decode cX8_lender 48 = .ok (.ireturn, 1) := by decide +kernel
theorem dX8_lender_49 : decode cX8_lender 49 = .ok (.aload_n 0, 1) := by decide +kernel
theorem dX8_lender_50 : decode cX8_lender 50 = .ok (.getfield 12, 3) := by decide +kernel
theorem dX8_lender_53 : decode cX8_lender 53 = .ok (.getfield 161, 3) := by decide +kernel
theorem dX8_lender_56 : decode cX8_lender 56 = .ok (.iload_n 1, 1) := by decide +kernel
theorem dX8_lender_57 : decode cX8_lender 57 = .ok (.iload_n 3, 1) := by decide +kernel
theorem dX8_lender_58 : decode cX8_lender 58 = .ok (.invokevirtual 173, 3) := by decide +kernel
theorem dX8_lender_61 : decode cX8_lender 61 = .ok (.ireturn, 1) := by decide +kernel
theorem dX8_nextThaw_0 : decode cX8_nextThaw 0 = .ok (.aload_n 0, 1) := by decide +kernel
theorem dX8_nextThaw_1 : decode cX8_nextThaw 1 = .ok (.getfield 12, 3) := by decide +kernel
theorem dX8_nextThaw_4 : decode cX8_nextThaw 4 = .ok (.invokevirtual 176, 3) := by decide +kernel
theorem dX8_nextThaw_7 : decode cX8_nextThaw 7 = .ok (.ireturn, 1) := by decide +kernel
theorem dX8_inBeing_0 : decode cX8_inBeing 0 = .ok (.iload_n 1, 1) := by decide +kernel
theorem dX8_inBeing_1 : decode cX8_inBeing 1 = .ok (.ifCond .lt 9, 3) := by decide +kernel
theorem dX8_inBeing_4 : decode cX8_inBeing 4 = .ok (.iload_n 1, 1) := by decide +kernel
theorem dX8_inBeing_5 : decode cX8_inBeing 5 = .ok (.bipush 39, 2) := by decide +kernel
theorem dX8_inBeing_7 : decode cX8_inBeing 7 = .ok (.if_icmp .le 13, 3) := by decide +kernel
theorem dX8_inBeing_10 : decode cX8_inBeing 10 = .ok (.new 117, 3) := by decide +kernel
theorem dX8_inBeing_13 : decode cX8_inBeing 13 = .ok (.dup, 1) := by decide +kernel
theorem dX8_inBeing_14 : decode cX8_inBeing 14 = .ok (.ldc 179, 2) := by decide +kernel
theorem dX8_inBeing_16 : decode cX8_inBeing 16 = .ok (.invokespecial 121, 3) := by decide +kernel
theorem dX8_inBeing_19 : decode cX8_inBeing 19 = .ok (.athrow, 1) := by decide +kernel
theorem dX8_inBeing_20 : decode cX8_inBeing 20 = .ok (.aload_n 0, 1) := by decide +kernel
theorem dX8_inBeing_21 : decode cX8_inBeing 21 = .ok (.getfield 12, 3) := by decide +kernel
theorem dX8_inBeing_24 : decode cX8_inBeing 24 = .ok (.getfield 155, 3) := by decide +kernel
theorem dX8_inBeing_27 : decode cX8_inBeing 27 = .ok (.iload_n 1, 1) := by decide +kernel
theorem dX8_inBeing_28 : decode cX8_inBeing 28 = .ok (.iadd, 1) := by decide +kernel
theorem dX8_inBeing_29 : decode cX8_inBeing 29 = .ok (.bipush 39, 2) := by decide +kernel
theorem dX8_inBeing_31 : decode cX8_inBeing 31 = .ok (.if_icmp .le 5, 3) := by decide +kernel
theorem dX8_inBeing_34 : decode cX8_inBeing 34 = .ok (.iconst (-1), 1) := by decide +kernel
theorem dX8_inBeing_35 : decode cX8_inBeing 35 = .ok (.ireturn, 1) := by decide +kernel
theorem dX8_inBeing_36 : decode cX8_inBeing 36 = .ok (.aload_n 0, 1) := by decide +kernel
theorem dX8_inBeing_37 : decode cX8_inBeing 37 = .ok (.getfield 16, 3) := by decide +kernel
theorem dX8_inBeing_40 : decode cX8_inBeing 40 = .ok (.aload_n 0, 1) := by decide +kernel
theorem dX8_inBeing_41 : decode cX8_inBeing 41 = .ok (.getfield 12, 3) := by decide +kernel
theorem dX8_inBeing_44 : decode cX8_inBeing 44 = .ok (.invokevirtual 158, 3) := by decide +kernel
theorem dX8_inBeing_47 : decode cX8_inBeing 47 = .ok (.iconst 0, 1) := by decide +kernel
theorem dX8_inBeing_48 : decode cX8_inBeing 48 = .ok (.istore_n 2, 1) := by decide +kernel
theorem dX8_inBeing_49 : decode cX8_inBeing 49 = .ok (.iload_n 2, 1) := by decide +kernel
theorem dX8_inBeing_50 : decode cX8_inBeing 50 = .ok (.iload_n 1, 1) := by decide +kernel
theorem dX8_inBeing_51 : decode cX8_inBeing 51 = .ok (.if_icmp .ge 17, 3) := by decide +kernel
theorem dX8_inBeing_54 : decode cX8_inBeing 54 = .ok (.aload_n 0, 1) := by decide +kernel
theorem dX8_inBeing_55 : decode cX8_inBeing 55 = .ok (.getfield 16, 3) := by decide +kernel
theorem dX8_inBeing_58 : decode cX8_inBeing 58 = .ok (.invokevirtual 52, 3) := by decide +kernel
theorem dX8_inBeing_61 : decode cX8_inBeing 61 = .ok (.pop, 1) := by decide +kernel
theorem dX8_inBeing_62 : decode cX8_inBeing 62 = .ok (.iinc 2 1, 3) := by decide +kernel
theorem dX8_inBeing_65 : decode cX8_inBeing 65 = .ok (.goto (-16), 3) := by decide +kernel
theorem dX8_inBeing_68 : decode cX8_inBeing 68 = .ok (.aload_n 0, 1) := by decide +kernel
theorem dX8_inBeing_69 : decode cX8_inBeing 69 = .ok (.getfield 16, 3) := by decide +kernel
theorem dX8_inBeing_72 : decode cX8_inBeing 72 = .ok (.invokevirtual 181, 3) := by decide +kernel
theorem dX8_inBeing_75 : decode cX8_inBeing 75 = .ok (.aload_n 0, 1) := by decide +kernel
theorem dX8_inBeing_76 : decode cX8_inBeing 76 = .ok (.getfield 16, 3) := by decide +kernel
theorem dX8_inBeing_79 : decode cX8_inBeing 79 = .ok (.invokevirtual 184, 3) := by decide +kernel
theorem dX8_inBeing_82 : decode cX8_inBeing 82 = .ok (.iadd, 1) := by decide +kernel
theorem dX8_inBeing_83 : decode cX8_inBeing 83 = .ok (.ireturn, 1) := by decide +kernel
theorem dX8_type_0 : decode cX8_type 0 = .ok (.iload_n 1, 1) := by decide +kernel
theorem dX8_type_1 : decode cX8_type 1 = .ok (.ifCond .lt 9, 3) := by decide +kernel
theorem dX8_type_4 : decode cX8_type 4 = .ok (.iload_n 1, 1) := by decide +kernel
theorem dX8_type_5 : decode cX8_type 5 = .ok (.bipush 127, 2) := by decide +kernel
theorem dX8_type_7 : decode cX8_type 7 = .ok (.if_icmp .le 13, 3) := by decide +kernel
theorem dX8_type_10 : decode cX8_type 10 = .ok (.new 117, 3) := by decide +kernel
theorem dX8_type_13 : decode cX8_type 13 = .ok (.dup, 1) := by decide +kernel
theorem dX8_type_14 : decode cX8_type 14 = .ok (.ldc 187, 2) := by decide +kernel
theorem dX8_type_16 : decode cX8_type 16 = .ok (.invokespecial 121, 3) := by decide +kernel
theorem dX8_type_19 : decode cX8_type 19 = .ok (.athrow, 1) := by decide +kernel
theorem dX8_type_20 : decode cX8_type 20 = .ok (.aload_n 0, 1) := by decide +kernel
theorem dX8_type_21 : decode cX8_type 21 = .ok (.getfield 29, 3) := by decide +kernel
theorem dX8_type_24 : decode cX8_type 24 = .ok (.getfield 189, 3) := by decide +kernel
theorem dX8_type_27 : decode cX8_type 27 = .ok (.sipush 150, 3) := by decide +kernel
theorem dX8_type_30 : decode cX8_type 30 = .ok (.if_icmp .lt 13, 3) := by decide +kernel
theorem dX8_type_33 : decode cX8_type 33 = .ok (.new 192, 3) := by decide +kernel
theorem dX8_type_36 : decode cX8_type 36 = .ok (.dup, 1) := by decide +kernel
theorem dX8_type_37 : decode cX8_type 37 = .ok (.ldc 194, 2) := by decide +kernel
theorem dX8_type_39 : decode cX8_type 39 = .ok (.invokespecial 196, 3) := by decide +kernel
theorem dX8_type_42 : decode cX8_type 42 = .ok (.athrow, 1) := by decide +kernel
theorem dX8_type_43 : decode cX8_type 43 = .ok (.aload_n 0, 1) := by decide +kernel
theorem dX8_type_44 : decode cX8_type 44 = .ok (.getfield 29, 3) := by decide +kernel
theorem dX8_type_47 : decode cX8_type 47 = .ok (.iload_n 1, 1) := by decide +kernel
theorem dX8_type_48 : decode cX8_type 48 = .ok (.invokevirtual 197, 3) := by decide +kernel
theorem dX8_type_51 : decode cX8_type 51 = .ok (.ireturn, 1) := by decide +kernel
theorem dX8_clearCommands_0 : decode cX8_clearCommands 0 = .ok (.aload_n 0, 1) := by decide +kernel
theorem dX8_clearCommands_1 : decode cX8_clearCommands 1 = .ok (.getfield 29, 3) := by decide +kernel
theorem dX8_clearCommands_4 : decode cX8_clearCommands 4 = .ok (.getfield 189, 3) := by decide +kernel
theorem dX8_clearCommands_7 : decode cX8_clearCommands 7 = .ok (.istore_n 1, 1) := by decide +kernel
theorem dX8_clearCommands_8 : decode cX8_clearCommands 8 = .ok (.aload_n 0, 1) := by decide +kernel
theorem dX8_clearCommands_9 : decode cX8_clearCommands 9 = .ok (.getfield 29, 3) := by decide +kernel
theorem dX8_clearCommands_12 : decode cX8_clearCommands 12 = .ok (.iconst 0, 1) := by decide +kernel
theorem dX8_clearCommands_13 : decode cX8_clearCommands 13 = .ok (.putfield 189, 3) := by decide +kernel
theorem dX8_clearCommands_16 : decode cX8_clearCommands 16 = .ok (.iload_n 1, 1) := by decide +kernel
theorem dX8_clearCommands_17 : decode cX8_clearCommands 17 = .ok (.ireturn, 1) := by decide +kernel
theorem dX8_runCommands_0 : decode cX8_runCommands 0 = .ok (.aload_n 0, 1) := by decide +kernel
theorem dX8_runCommands_1 : decode cX8_runCommands 1 = .ok (.getfield 29, 3) := by decide +kernel
theorem dX8_runCommands_4 : decode cX8_runCommands 4 = .ok (.invokevirtual 200, 3) := by decide +kernel
theorem dX8_runCommands_7 : decode cX8_runCommands 7 = .ok (.istore_n 1, 1) := by decide +kernel
theorem dX8_runCommands_8 : decode cX8_runCommands 8 = .ok (.iload_n 1, 1) := by decide +kernel
theorem dX8_runCommands_9 : decode cX8_runCommands 9 = .ok (.iconst (-1), 1) := by decide +kernel
theorem dX8_runCommands_10 : decode cX8_runCommands 10 = .ok (.if_icmp .eq 8, 3) := by decide +kernel
theorem dX8_runCommands_13 : decode cX8_runCommands 13 = .ok (.bipush (-10), 2) := by decide +kernel
theorem dX8_runCommands_15 : decode cX8_runCommands 15 = .ok (.iload_n 1, 1) := by decide +kernel
theorem dX8_runCommands_16 : decode cX8_runCommands 16 = .ok (.isub, 1) := by decide +kernel
theorem dX8_runCommands_17 : decode cX8_runCommands 17 = .ok (.ireturn, 1) := by decide +kernel
theorem dX8_runCommands_18 : decode cX8_runCommands 18 = .ok (.aload_n 0, 1) := by decide +kernel
theorem dX8_runCommands_19 : decode cX8_runCommands 19 = .ok (.getfield 22, 3) := by decide +kernel
theorem dX8_runCommands_22 : decode cX8_runCommands 22 = .ok (.aload_n 0, 1) := by decide +kernel
theorem dX8_runCommands_23 : decode cX8_runCommands 23 = .ok (.getfield 12, 3) := by decide +kernel
theorem dX8_runCommands_26 : decode cX8_runCommands 26 = .ok (.invokevirtual 33, 3) := by decide +kernel
theorem dX8_runCommands_29 : decode cX8_runCommands 29 = .ok (.aload_n 0, 1) := by decide +kernel
theorem dX8_runCommands_30 : decode cX8_runCommands 30 = .ok (.invokevirtual 203, 3) := by decide +kernel
theorem dX8_runCommands_33 : decode cX8_runCommands 33 = .ok (.istore_n 2, 1) := by decide +kernel
theorem dX8_runCommands_34 : decode cX8_runCommands 34 = .ok (.aload_n 0, 1) := by decide +kernel
theorem dX8_runCommands_35 : decode cX8_runCommands 35 = .ok (.getfield 22, 3) := by decide +kernel
theorem dX8_runCommands_38 : decode cX8_runCommands 38 = .ok (.invokevirtual 206, 3) := by decide +kernel
theorem dX8_runCommands_41 : decode cX8_runCommands 41 = .ok (.iload_n 2, 1) := by decide +kernel
theorem dX8_runCommands_42 : decode cX8_runCommands 42 = .ok (.ireturn, 1) := by decide +kernel
theorem dX8_undo_0 : decode cX8_undo 0 = .ok (.aload_n 0, 1) := by decide +kernel
theorem dX8_undo_1 : decode cX8_undo 1 = .ok (.getfield 22, 3) := by decide +kernel
theorem dX8_undo_4 : decode cX8_undo 4 = .ok (.getfield 209, 3) := by decide +kernel
theorem dX8_undo_7 : decode cX8_undo 7 = .ok (.ifCond .gt 13, 3) := by decide +kernel
theorem dX8_undo_10 : decode cX8_undo 10 = .ok (.new 192, 3) := by decide +kernel
theorem dX8_undo_13 : decode cX8_undo 13 = .ok (.dup, 1) := by decide +kernel
theorem dX8_undo_14 : decode cX8_undo 14 = .ok (.ldc 212, 2) := by decide +kernel
theorem dX8_undo_16 : decode cX8_undo 16 = .ok (.invokespecial 196, 3) := by decide +kernel
theorem dX8_undo_19 : decode cX8_undo 19 = .ok (.athrow, 1) := by decide +kernel
theorem dX8_undo_20 : decode cX8_undo 20 = .ok (.aload_n 0, 1) := by decide +kernel
theorem dX8_undo_21 : decode cX8_undo 21 = .ok (.getfield 22, 3) := by decide +kernel
theorem dX8_undo_24 : decode cX8_undo 24 = .ok (.aload_n 0, 1) := by decide +kernel
theorem dX8_undo_25 : decode cX8_undo 25 = .ok (.getfield 12, 3) := by decide +kernel
theorem dX8_undo_28 : decode cX8_undo 28 = .ok (.invokevirtual 214, 3) := by decide +kernel
theorem dX8_undo_31 : decode cX8_undo 31 = .ok (.ireturn, 1) := by decide +kernel
theorem dX8_digest_0 : decode cX8_digest 0 = .ok (.ldc2_w 218, 3) := by decide +kernel
theorem dX8_digest_3 : decode cX8_digest 3 = .ok (.aload_n 0, 1) := by decide +kernel
theorem dX8_digest_4 : decode cX8_digest 4 = .ok (.getfield 22, 3) := by decide +kernel
theorem dX8_digest_7 : decode cX8_digest 7 = .ok (.getfield 209, 3) := by decide +kernel
theorem dX8_digest_10 : decode cX8_digest 10 = .ok (.invokestatic 220, 3) := by decide +kernel
theorem dX8_digest_13 : decode cX8_digest 13 = .ok (.lstore_n 1, 1) := by decide +kernel
theorem dX8_digest_14 : decode cX8_digest 14 = .ok (.iconst 0, 1) := by decide +kernel
theorem dX8_digest_15 : decode cX8_digest 15 = .ok (.istore_n 3, 1) := by decide +kernel
theorem dX8_digest_16 : decode cX8_digest 16 = .ok (.iload_n 3, 1) := by decide +kernel
theorem dX8_digest_17 : decode cX8_digest 17 = .ok (.bipush 18, 2) := by decide +kernel
theorem dX8_digest_19 : decode cX8_digest 19 = .ok (.if_icmp .ge 19, 3) := by decide +kernel
theorem dX8_digest_22 : decode cX8_digest 22 = .ok (.lload_n 1, 1) := by decide +kernel
theorem dX8_digest_23 : decode cX8_digest 23 = .ok (.aload_n 0, 1) := by decide +kernel
theorem dX8_digest_24 : decode cX8_digest 24 = .ok (.iload_n 3, 1) := by decide +kernel
theorem dX8_digest_25 : decode cX8_digest 25 = .ok (.invokevirtual 140, 3) := by decide +kernel
theorem dX8_digest_28 : decode cX8_digest 28 = .ok (.invokestatic 220, 3) := by decide +kernel
theorem dX8_digest_31 : decode cX8_digest 31 = .ok (.lstore_n 1, 1) := by decide +kernel
theorem dX8_digest_32 : decode cX8_digest 32 = .ok (.iinc 3 1, 3) := by decide +kernel
theorem dX8_digest_35 : decode cX8_digest 35 = .ok (.goto (-19), 3) := by decide +kernel
theorem dX8_digest_38 : decode cX8_digest 38 = .ok (.iconst 0, 1) := by decide +kernel
theorem dX8_digest_39 : decode cX8_digest 39 = .ok (.istore_n 3, 1) := by decide +kernel
theorem dX8_digest_40 : decode cX8_digest 40 = .ok (.iload_n 3, 1) := by decide +kernel
theorem dX8_digest_41 : decode cX8_digest 41 = .ok (.bipush 40, 2) := by decide +kernel
theorem dX8_digest_43 : decode cX8_digest 43 = .ok (.if_icmp .ge 26, 3) := by decide +kernel
theorem dX8_digest_46 : decode cX8_digest 46 = .ok (.lload_n 1, 1) := by decide +kernel
theorem dX8_digest_47 : decode cX8_digest 47 = .ok (.aload_n 0, 1) := by decide +kernel
theorem dX8_digest_48 : decode cX8_digest 48 = .ok (.getfield 12, 3) := by decide +kernel
theorem dX8_digest_51 : decode cX8_digest 51 = .ok (.getfield 132, 3) := by decide +kernel
theorem dX8_digest_54 : decode cX8_digest 54 = .ok (.iload_n 3, 1) := by decide +kernel
theorem dX8_digest_55 : decode cX8_digest 55 = .ok (.baload, 1) := by decide +kernel
theorem dX8_digest_56 : decode cX8_digest 56 = .ok (.invokestatic 136, 3) := by decide +kernel
theorem dX8_digest_59 : decode cX8_digest 59 = .ok (.invokestatic 220, 3) := by decide +kernel
theorem dX8_digest_62 : decode cX8_digest 62 = .ok (.lstore_n 1, 1) := by decide +kernel
theorem dX8_digest_63 : decode cX8_digest 63 = .ok (.iinc 3 1, 3) := by decide +kernel
theorem dX8_digest_66 : decode cX8_digest 66 = .ok (.goto (-26), 3) := by decide +kernel
theorem dX8_digest_69 : decode cX8_digest 69 = .ok (.aload_n 0, 1) := by decide +kernel
theorem dX8_digest_70 : decode cX8_digest 70 = .ok (.lload_n 1, 1) := by decide +kernel
theorem dX8_digest_71 : decode cX8_digest 71 = .ok (.invokevirtual 224, 3) := by decide +kernel
theorem dX8_digest_74 : decode cX8_digest 74 = .ok (.lstore_n 1, 1) := by decide +kernel
theorem dX8_digest_75 : decode cX8_digest 75 = .ok (.aload_n 0, 1) := by decide +kernel
theorem dX8_digest_76 : decode cX8_digest 76 = .ok (.lload_n 1, 1) := by decide +kernel
theorem dX8_digest_77 : decode cX8_digest 77 = .ok (.invokevirtual 228, 3) := by decide +kernel
theorem dX8_digest_80 : decode cX8_digest 80 = .ok (.lstore_n 1, 1) := by decide +kernel
theorem dX8_digest_81 : decode cX8_digest 81 = .ok (.aload_n 0, 1) := by decide +kernel
theorem dX8_digest_82 : decode cX8_digest 82 = .ok (.lload_n 1, 1) := by decide +kernel
theorem dX8_digest_83 : decode cX8_digest 83 = .ok (.invokevirtual 231, 3) := by decide +kernel
theorem dX8_digest_86 : decode cX8_digest 86 = .ok (.lstore_n 1, 1) := by decide +kernel
theorem dX8_digest_87 : decode cX8_digest 87 = .ok (.lload_n 1, 1) := by decide +kernel
theorem dX8_digest_88 : decode cX8_digest 88 = .ok (.aload_n 0, 1) := by decide +kernel
theorem dX8_digest_89 : decode cX8_digest 89 = .ok (.getfield 12, 3) := by decide +kernel
theorem dX8_digest_92 : decode cX8_digest 92 = .ok (.invokevirtual 176, 3) := by decide +kernel
theorem dX8_digest_95 : decode cX8_digest 95 = .ok (.invokestatic 220, 3) := by decide +kernel
theorem dX8_digest_98 : decode cX8_digest 98 = .ok (.lreturn, 1) := by decide +kernel
theorem dX8_settle_0 : decode cX8_settle 0 = .ok (.iload_n 1, 1) := by decide +kernel
theorem dX8_settle_1 : decode cX8_settle 1 = .ok (.iconst (-1), 1) := by decide +kernel
theorem dX8_settle_2 : decode cX8_settle 2 = .ok (.if_icmp .ne 13, 3) := by decide +kernel
theorem dX8_settle_5 : decode cX8_settle 5 = .ok (.new 109, 3) := by decide +kernel
theorem dX8_settle_8 : decode cX8_settle 8 = .ok (.dup, 1) := by decide +kernel
theorem dX8_settle_9 : decode cX8_settle 9 = .ok (.ldc 234, 2) := by decide +kernel
theorem dX8_settle_11 : decode cX8_settle 11 = .ok (.invokespecial 113, 3) := by decide +kernel
theorem dX8_settle_14 : decode cX8_settle 14 = .ok (.athrow, 1) := by decide +kernel
theorem dX8_settle_15 : decode cX8_settle 15 = .ok (.iload_n 1, 1) := by decide +kernel
theorem dX8_settle_16 : decode cX8_settle 16 = .ok (.bipush (-2), 2) := by decide +kernel
theorem dX8_settle_18 : decode cX8_settle 18 = .ok (.if_icmp .ne 13, 3) := by decide +kernel
theorem dX8_settle_21 : decode cX8_settle 21 = .ok (.new 117, 3) := by decide +kernel
theorem dX8_settle_24 : decode cX8_settle 24 = .ok (.dup, 1) := by decide +kernel
theorem dX8_settle_25 : decode cX8_settle 25 = .ok (.ldc 236, 2) := by decide +kernel
theorem dX8_settle_27 : decode cX8_settle 27 = .ok (.invokespecial 121, 3) := by decide +kernel
theorem dX8_settle_30 : decode cX8_settle 30 = .ok (.athrow, 1) := by decide +kernel
theorem dX8_settle_31 : decode cX8_settle 31 = .ok (.iload_n 1, 1) := by decide +kernel
theorem dX8_settle_32 : decode cX8_settle 32 = .ok (.bipush (-3), 2) := by decide +kernel
theorem dX8_settle_34 : decode cX8_settle 34 = .ok (.if_icmp .ne 13, 3) := by decide +kernel
theorem dX8_settle_37 : decode cX8_settle 37 = .ok (.new 192, 3) := by decide +kernel
theorem dX8_settle_40 : decode cX8_settle 40 = .ok (.dup, 1) := by decide +kernel
theorem dX8_settle_41 : decode cX8_settle 41 = .ok (.ldc 238, 2) := by decide +kernel
theorem dX8_settle_43 : decode cX8_settle 43 = .ok (.invokespecial 196, 3) := by decide +kernel
theorem dX8_settle_46 : decode cX8_settle 46 = .ok (.athrow, 1) := by decide +kernel
theorem dX8_settle_47 : decode cX8_settle 47 = .ok (.aload_n 0, 1) := by decide +kernel
theorem dX8_settle_48 : decode cX8_settle 48 = .ok (.getfield 22, 3) := by decide +kernel
theorem dX8_settle_51 : decode cX8_settle 51 = .ok (.invokevirtual 206, 3) := by decide +kernel
theorem dX8_settle_54 : decode cX8_settle 54 = .ok (.iload_n 1, 1) := by decide +kernel
theorem dX8_settle_55 : decode cX8_settle 55 = .ok (.ireturn, 1) := by decide +kernel
theorem dX8_needTeam_0 : decode cX8_needTeam 0 = .ok (.aload_n 0, 1) := by decide +kernel
theorem dX8_needTeam_1 : decode cX8_needTeam 1 = .ok (.getfield 12, 3) := by decide +kernel
theorem dX8_needTeam_4 : decode cX8_needTeam 4 = .ok (.getfield 161, 3) := by decide +kernel
theorem dX8_needTeam_7 : decode cX8_needTeam 7 = .ok (.iload_n 1, 1) := by decide +kernel
theorem dX8_needTeam_8 : decode cX8_needTeam 8 = .ok (.invokevirtual 240, 3) := by decide +kernel
theorem dX8_needTeam_11 : decode cX8_needTeam 11 = .ok (.ifCond .ne 13, 3) := by decide +kernel
theorem dX8_needTeam_14 : decode cX8_needTeam 14 = .ok (.new 109, 3) := by decide +kernel
theorem dX8_needTeam_17 : decode cX8_needTeam 17 = .ok (.dup, 1) := by decide +kernel
theorem dX8_needTeam_18 : decode cX8_needTeam 18 = .ok (.ldc 241, 2) := by decide +kernel
theorem dX8_needTeam_20 : decode cX8_needTeam 20 = .ok (.invokespecial 113, 3) := by decide +kernel
theorem dX8_needTeam_23 : decode cX8_needTeam 23 = .ok (.athrow, 1) := by decide +kernel
theorem dX8_needTeam_24 : decode cX8_needTeam 24 = .ok (.return_, 1) := by decide +kernel
theorem dX8_needChange_0 : decode cX8_needChange 0 = .ok (.aload_n 0, 1) := by decide +kernel
theorem dX8_needChange_1 : decode cX8_needChange 1 = .ok (.getfield 12, 3) := by decide +kernel
theorem dX8_needChange_4 : decode cX8_needChange 4 = .ok (.getfield 90, 3) := by decide +kernel
theorem dX8_needChange_7 : decode cX8_needChange 7 = .ok (.iload_n 1, 1) := by decide +kernel
theorem dX8_needChange_8 : decode cX8_needChange 8 = .ok (.invokevirtual 243, 3) := by decide +kernel
theorem dX8_needChange_11 : decode cX8_needChange 11 = .ok (.ifCond .ne 13, 3) := by decide +kernel
theorem dX8_needChange_14 : decode cX8_needChange 14 = .ok (.new 109, 3) := by decide +kernel
theorem dX8_needChange_17 : decode cX8_needChange 17 = .ok (.dup, 1) := by decide +kernel
theorem dX8_needChange_18 : decode cX8_needChange 18 = .ok (.ldc 244, 2) := by decide +kernel
theorem dX8_needChange_20 : decode cX8_needChange 20 = .ok (.invokespecial 113, 3) := by decide +kernel
theorem dX8_needChange_23 : decode cX8_needChange 23 = .ok (.athrow, 1) := by decide +kernel
theorem dX8_needChange_24 : decode cX8_needChange 24 = .ok (.return_, 1) := by decide +kernel
theorem dX8_needRisk_0 : decode cX8_needRisk 0 = .ok (.iload_n 1, 1) := by decide +kernel
theorem dX8_needRisk_1 : decode cX8_needRisk 1 = .ok (.invokestatic 246, 3) := by decide +kernel
theorem dX8_needRisk_4 : decode cX8_needRisk 4 = .ok (.ifCond .ne 13, 3) := by decide +kernel
theorem dX8_needRisk_7 : decode cX8_needRisk 7 = .ok (.new 117, 3) := by decide +kernel
theorem dX8_needRisk_10 : decode cX8_needRisk 10 = .ok (.dup, 1) := by decide +kernel
theorem dX8_needRisk_11 : decode cX8_needRisk 11 = .ok (.ldc 249, 2) := by decide +kernel
theorem dX8_needRisk_13 : decode cX8_needRisk 13 = .ok (.invokespecial 121, 3) := by decide +kernel
theorem dX8_needRisk_16 : decode cX8_needRisk 16 = .ok (.athrow, 1) := by decide +kernel
theorem dX8_needRisk_17 : decode cX8_needRisk 17 = .ok (.return_, 1) := by decide +kernel
theorem dX8_needValue_0 : decode cX8_needValue 0 = .ok (.iload_n 1, 1) := by decide +kernel
theorem dX8_needValue_1 : decode cX8_needValue 1 = .ok (.ifCond .lt 8, 3) := by decide +kernel
theorem dX8_needValue_4 : decode cX8_needValue 4 = .ok (.iload_n 1, 1) := by decide +kernel
theorem dX8_needValue_5 : decode cX8_needValue 5 = .ok (.iload_n 2, 1) := by decide +kernel
theorem dX8_needValue_6 : decode cX8_needValue 6 = .ok (.if_icmp .lt 13, 3) := by decide +kernel
theorem dX8_needValue_9 : decode cX8_needValue 9 = .ok (.new 117, 3) := by decide +kernel
theorem dX8_needValue_12 : decode cX8_needValue 12 = .ok (.dup, 1) := by decide +kernel
theorem dX8_needValue_13 : decode cX8_needValue 13 = .ok (.ldc 251, 2) := by decide +kernel
theorem dX8_needValue_15 : decode cX8_needValue 15 = .ok (.invokespecial 121, 3) := by decide +kernel
theorem dX8_needValue_18 : decode cX8_needValue 18 = .ok (.athrow, 1) := by decide +kernel
theorem dX8_needValue_19 : decode cX8_needValue 19 = .ok (.return_, 1) := by decide +kernel
theorem dX8_isRisk_0 : decode cX8_isRisk 0 = .ok (.iload_n 0, 1) := by decide +kernel
theorem dX8_isRisk_1 : decode cX8_isRisk 1 = .ok (.iconst 1, 1) := by decide +kernel
theorem dX8_isRisk_2 : decode cX8_isRisk 2 = .ok (.if_icmp .lt 13, 3) := by decide +kernel
theorem dX8_isRisk_5 : decode cX8_isRisk 5 = .ok (.iload_n 0, 1) := by decide +kernel
theorem dX8_isRisk_6 : decode cX8_isRisk 6 = .ok (.bipush 9, 2) := by decide +kernel
theorem dX8_isRisk_8 : decode cX8_isRisk 8 = .ok (.if_icmp .gt 7, 3) := by decide +kernel
theorem dX8_isRisk_11 : decode cX8_isRisk 11 = .ok (.iconst 1, 1) := by decide +kernel
theorem dX8_isRisk_12 : decode cX8_isRisk 12 = .ok (.goto 4, 3) := by decide +kernel
theorem dX8_isRisk_15 : decode cX8_isRisk 15 = .ok (.iconst 0, 1) := by decide +kernel
theorem dX8_isRisk_16 : decode cX8_isRisk 16 = .ok (.ireturn, 1) := by decide +kernel
theorem dX8_asNumber_0 : decode cX8_asNumber 0 = .ok (.iload_n 0, 1) := by decide +kernel
theorem dX8_asNumber_1 : decode cX8_asNumber 1 = .ok (.ifCond .eq 7, 3) := by decide +kernel
theorem dX8_asNumber_4 : decode cX8_asNumber 4 = .ok (.iconst 1, 1) := by decide +kernel
theorem dX8_asNumber_5 : decode cX8_asNumber 5 = .ok (.goto 4, 3) := by decide +kernel
theorem dX8_asNumber_8 : decode cX8_asNumber 8 = .ok (.iconst 0, 1) := by decide +kernel
theorem dX8_asNumber_9 : decode cX8_asNumber 9 = .ok (.ireturn, 1) := by decide +kernel
theorem dX8_sum_0 : decode cX8_sum 0 = .ok (.iconst 0, 1) := by decide +kernel
theorem dX8_sum_1 : decode cX8_sum 1 = .ok (.istore_n 2, 1) := by decide +kernel
theorem dX8_sum_2 : decode cX8_sum 2 = .ok (.iconst 0, 1) := by decide +kernel
theorem dX8_sum_3 : decode cX8_sum 3 = .ok (.istore_n 3, 1) := by decide +kernel
theorem dX8_sum_4 : decode cX8_sum 4 = .ok (.iload_n 3, 1) := by decide +kernel
theorem dX8_sum_5 : decode cX8_sum 5 = .ok (.iload_n 1, 1) := by decide +kernel
theorem dX8_sum_6 : decode cX8_sum 6 = .ok (.if_icmp .ge 15, 3) := by decide +kernel
theorem dX8_sum_9 : decode cX8_sum 9 = .ok (.iload_n 2, 1) := by decide +kernel
theorem dX8_sum_10 : decode cX8_sum 10 = .ok (.aload_n 0, 1) := by decide +kernel
theorem dX8_sum_11 : decode cX8_sum 11 = .ok (.iload_n 3, 1) := by decide +kernel
theorem dX8_sum_12 : decode cX8_sum 12 = .ok (.iaload, 1) := by decide +kernel
theorem dX8_sum_13 : decode cX8_sum 13 = .ok (.iadd, 1) := by decide +kernel
theorem dX8_sum_14 : decode cX8_sum 14 = .ok (.istore_n 2, 1) := by decide +kernel
theorem dX8_sum_15 : decode cX8_sum 15 = .ok (.iinc 3 1, 3) := by decide +kernel
theorem dX8_sum_18 : decode cX8_sum 18 = .ok (.goto (-14), 3) := by decide +kernel
theorem dX8_sum_21 : decode cX8_sum 21 = .ok (.iload_n 2, 1) := by decide +kernel
theorem dX8_sum_22 : decode cX8_sum 22 = .ok (.ireturn, 1) := by decide +kernel
theorem dX8_wholeValue_0 : decode cX8_wholeValue 0 = .ok (.iload_n 1, 1) := by decide +kernel
theorem dX8_wholeValue_1 : decode cX8_wholeValue 1 = .ok (.bipush 17, 2) := by decide +kernel
theorem dX8_wholeValue_3 : decode cX8_wholeValue 3 = .ok (.if_icmp .ne 13, 3) := by decide +kernel
theorem dX8_wholeValue_6 : decode cX8_wholeValue 6 = .ok (.aload_n 0, 1) := by decide +kernel
theorem dX8_wholeValue_7 : decode cX8_wholeValue 7 = .ok (.getfield 29, 3) := by decide +kernel
theorem dX8_wholeValue_10 : decode cX8_wholeValue 10 = .ok (.getfield 189, 3) := by decide +kernel
theorem dX8_wholeValue_13 : decode cX8_wholeValue 13 = .ok (.goto 11, 3) := by decide +kernel
theorem dX8_wholeValue_16 : decode cX8_wholeValue 16 = .ok (.aload_n 0, 1) := by decide +kernel
theorem dX8_wholeValue_17 : decode cX8_wholeValue 17 = .ok (.getfield 12, 3) := by decide +kernel
theorem dX8_wholeValue_20 : decode cX8_wholeValue 20 = .ok (.iload_n 1, 1) := by decide +kernel
theorem dX8_wholeValue_21 : decode cX8_wholeValue 21 = .ok (.invokevirtual 253, 3) := by decide +kernel
theorem dX8_wholeValue_24 : decode cX8_wholeValue 24 = .ok (.ireturn, 1) := by decide +kernel
theorem dX8_carryOutText_0 : decode cX8_carryOutText 0 = .ok (.iconst 0, 1) := by decide +kernel
theorem dX8_carryOutText_1 : decode cX8_carryOutText 1 = .ok (.istore_n 1, 1) := by decide +kernel
theorem dX8_carryOutText_2 : decode cX8_carryOutText 2 = .ok (.aload_n 0, 1) := by decide +kernel
theorem dX8_carryOutText_3 : decode cX8_carryOutText 3 = .ok (.getfield 29, 3) := by decide +kernel
theorem dX8_carryOutText_6 : decode cX8_carryOutText 6 = .ok (.invokevirtual 256, 3) := by decide +kernel
theorem dX8_carryOutText_9 : decode cX8_carryOutText 9 = .ok (.iconst 0, 1) := by decide +kernel
theorem dX8_carryOutText_10 : decode cX8_carryOutText 10 = .ok (.istore_n 2, 1) := by decide +kernel
theorem dX8_carryOutText_11 : decode cX8_carryOutText 11 = .ok (.iload_n 2, 1) := by decide +kernel
theorem dX8_carryOutText_12 : decode cX8_carryOutText 12 = .ok (.sipush 150, 3) := by decide +kernel
theorem dX8_carryOutText_15 : decode cX8_carryOutText 15 = .ok (.if_icmp .ge 56, 3) := by decide +kernel
theorem dX8_carryOutText_18 : decode cX8_carryOutText 18 = .ok (.aload_n 0, 1) := by decide +kernel
theorem dX8_carryOutText_19 : decode cX8_carryOutText 19 = .ok (.getfield 29, 3) := by decide +kernel
theorem dX8_carryOutText_22 : decode cX8_carryOutText 22 = .ok (.invokevirtual 259, 3) := by decide +kernel
theorem dX8_carryOutText_25 : decode cX8_carryOutText 25 = .ok (.ifCond .eq 46, 3) := by decide +kernel
theorem dX8_carryOutText_28 : decode cX8_carryOutText 28 = .ok (.aload_n 0, 1) := by decide +kernel
theorem dX8_carryOutText_29 : decode cX8_carryOutText 29 = .ok (.getfield 29, 3) := by decide +kernel
theorem dX8_carryOutText_32 : decode cX8_carryOutText 32 = .ok (.invokevirtual 263, 3) := by decide +kernel
theorem dX8_carryOutText_35 : decode cX8_carryOutText 35 = .ok (.iconst (-1), 1) := by decide +kernel
theorem dX8_carryOutText_36 : decode cX8_carryOutText 36 = .ok (.if_icmp .ne 24, 3) := by decide +kernel
theorem dX8_carryOutText_39 : decode cX8_carryOutText 39 = .ok (.aload_n 0, 1) := by decide +kernel
theorem dX8_carryOutText_40 : decode cX8_carryOutText 40 = .ok (.aload_n 0, 1) := by decide +kernel
theorem dX8_carryOutText_41 : decode cX8_carryOutText 41 = .ok (.getfield 29, 3) := by decide +kernel
theorem dX8_carryOutText_44 : decode cX8_carryOutText 44 = .ok (.getfield 266, 3) := by decide +kernel
theorem dX8_carryOutText_47 : decode cX8_carryOutText 47 = .ok (.aload_n 0, 1) := by decide +kernel
theorem dX8_carryOutText_48 : decode cX8_carryOutText 48 = .ok (.getfield 29, 3) := by decide +kernel
theorem dX8_carryOutText_51 : decode cX8_carryOutText 51 = .ok (.getfield 270, 3) := by decide +kernel
theorem dX8_carryOutText_54 : decode cX8_carryOutText 54 = .ok (.invokevirtual 273, 3) := by decide +kernel
theorem dX8_carryOutText_57 : decode cX8_carryOutText 57 = .ok (.ifCond .ge 5, 3) := by decide +kernel
theorem dX8_carryOutText_60 : decode cX8_carryOutText 60 = .ok (.iload_n 1, 1) := by decide +kernel
theorem dX8_carryOutText_61 : decode cX8_carryOutText 61 = .ok (.ireturn, 1) := by decide +kernel
theorem dX8_carryOutText_62 : decode cX8_carryOutText 62 = .ok (.iinc 1 1, 3) := by decide +kernel
theorem dX8_carryOutText_65 : decode cX8_carryOutText 65 = .ok (.iinc 2 1, 3) := by decide +kernel
theorem dX8_carryOutText_68 : decode cX8_carryOutText 68 = .ok (.goto (-57), 3) := by decide +kernel
theorem dX8_carryOutText_71 : decode cX8_carryOutText 71 = .ok (.iload_n 1, 1) := by decide +kernel
theorem dX8_carryOutText_72 : decode cX8_carryOutText 72 = .ok (.ireturn, 1) := by decide +kernel
theorem dX8_carryOut_0 : decode cX8_carryOut 0 = .ok (.aload_n 1, 1) := by decide +kernel
theorem dX8_carryOut_1 : decode cX8_carryOut 1 = .ok (.ifnonnull 6, 3) := by decide +kernel
theorem dX8_carryOut_4 : decode cX8_carryOut 4 = .ok (.bipush (-3), 2) := by decide +kernel
theorem dX8_carryOut_6 : decode cX8_carryOut 6 = .ok (.ireturn, 1) := by decide +kernel
theorem dX8_carryOut_7 : decode cX8_carryOut 7 = .ok (.getstatic 277, 3) := by decide +kernel
theorem dX8_carryOut_10 : decode cX8_carryOut 10 = .ok (.aload_n 1, 1) := by decide +kernel
theorem dX8_carryOut_11 : decode cX8_carryOut 11 = .ok (.invokevirtual 282, 3) := by decide +kernel
theorem dX8_carryOut_14 : decode cX8_carryOut 14 = .ok (.iaload, 1) := by decide +kernel
theorem dX8_carryOut_15 : decode cX8_carryOut 15 = .ok (.tableswitch 206 1 11 #[57, 68, 83, 98, 112, 123, 135, 147, 158, 178, 192], 57) := by decide +kernel
theorem dX8_carryOut_72 : decode cX8_carryOut 72 = .ok (.aload_n 0, 1) := by decide +kernel
theorem dX8_carryOut_73 : decode cX8_carryOut 73 = .ok (.getfield 12, 3) := by decide +kernel
theorem dX8_carryOut_76 : decode cX8_carryOut 76 = .ok (.aload_n 2, 1) := by decide +kernel
theorem dX8_carryOut_77 : decode cX8_carryOut 77 = .ok (.iconst 0, 1) := by decide +kernel
theorem dX8_carryOut_78 : decode cX8_carryOut 78 = .ok (.iaload, 1) := by decide +kernel
theorem dX8_carryOut_79 : decode cX8_carryOut 79 = .ok (.invokevirtual 37, 3) := by decide +kernel
theorem dX8_carryOut_82 : decode cX8_carryOut 82 = .ok (.ireturn, 1) := by decide +kernel
theorem dX8_carryOut_83 : decode cX8_carryOut 83 = .ok (.aload_n 0, 1) := by decide +kernel
theorem dX8_carryOut_84 : decode cX8_carryOut 84 = .ok (.getfield 12, 3) := by decide +kernel
theorem dX8_carryOut_87 : decode cX8_carryOut 87 = .ok (.aload_n 2, 1) := by decide +kernel
theorem dX8_carryOut_88 : decode cX8_carryOut 88 = .ok (.iconst 0, 1) := by decide +kernel
theorem dX8_carryOut_89 : decode cX8_carryOut 89 = .ok (.iaload, 1) := by decide +kernel
theorem dX8_carryOut_90 : decode cX8_carryOut 90 = .ok (.aload_n 2, 1) := by decide +kernel
theorem dX8_carryOut_91 : decode cX8_carryOut 91 = .ok (.iconst 1, 1) := by decide +kernel
theorem dX8_carryOut_92 : decode cX8_carryOut 92 = .ok (.iaload, 1) := by decide +kernel
theorem dX8_carryOut_93 : decode cX8_carryOut 93 = .ok (.iconst 1, 1) := by decide +kernel
theorem dX8_carryOut_94 : decode cX8_carryOut 94 = .ok (.invokevirtual 44, 3) := by decide +kernel
theorem dX8_carryOut_97 : decode cX8_carryOut 97 = .ok (.ireturn, 1) := by decide +kernel
theorem dX8_carryOut_98 : decode cX8_carryOut 98 = .ok (.aload_n 0, 1) := by decide +kernel
theorem dX8_carryOut_99 : decode cX8_carryOut 99 = .ok (.getfield 12, 3) := by decide +kernel
theorem dX8_carryOut_102 : decode cX8_carryOut 102 = .ok (.aload_n 2, 1) := by decide +kernel
theorem dX8_carryOut_103 : decode cX8_carryOut 103 = .ok (.iconst 0, 1) := by decide +kernel
theorem dX8_carryOut_104 : decode cX8_carryOut 104 = .ok (.iaload, 1) := by decide +kernel
theorem dX8_carryOut_105 : decode cX8_carryOut 105 = .ok (.aload_n 2, 1) := by decide +kernel
theorem dX8_carryOut_106 : decode cX8_carryOut 106 = .ok (.iconst 1, 1) := by decide +kernel
theorem dX8_carryOut_107 : decode cX8_carryOut 107 = .ok (.iaload, 1) := by decide +kernel
theorem dX8_carryOut_108 : decode cX8_carryOut 108 = .ok (.iconst 0, 1) := by decide +kernel
theorem dX8_carryOut_109 : decode cX8_carryOut 109 = .ok (.invokevirtual 44, 3) := by decide +kernel
theorem dX8_carryOut_112 : decode cX8_carryOut 112 = .ok (.ireturn, 1) := by decide +kernel
theorem dX8_carryOut_113 : decode cX8_carryOut 113 = .ok (.aload_n 0, 1) := by decide +kernel
theorem dX8_carryOut_114 : decode cX8_carryOut 114 = .ok (.getfield 12, 3) := by decide +kernel
theorem dX8_carryOut_117 : decode cX8_carryOut 117 = .ok (.aload_n 2, 1) := by decide +kernel
theorem dX8_carryOut_118 : decode cX8_carryOut 118 = .ok (.iconst 0, 1) := by decide +kernel
theorem dX8_carryOut_119 : decode cX8_carryOut 119 = .ok (.iaload, 1) := by decide +kernel
theorem dX8_carryOut_120 : decode cX8_carryOut 120 = .ok (.aload_n 2, 1) := by decide +kernel
theorem dX8_carryOut_121 : decode cX8_carryOut 121 = .ok (.iconst 1, 1) := by decide +kernel
theorem dX8_carryOut_122 : decode cX8_carryOut 122 = .ok (.iaload, 1) := by decide +kernel
theorem dX8_carryOut_123 : decode cX8_carryOut 123 = .ok (.invokevirtual 56, 3) := by decide +kernel
theorem dX8_carryOut_126 : decode cX8_carryOut 126 = .ok (.ireturn, 1) := by decide +kernel
theorem dX8_carryOut_127 : decode cX8_carryOut 127 = .ok (.aload_n 0, 1) := by decide +kernel
theorem dX8_carryOut_128 : decode cX8_carryOut 128 = .ok (.getfield 12, 3) := by decide +kernel
theorem dX8_carryOut_131 : decode cX8_carryOut 131 = .ok (.aload_n 2, 1) := by decide +kernel
theorem dX8_carryOut_132 : decode cX8_carryOut 132 = .ok (.iconst 0, 1) := by decide +kernel
theorem dX8_carryOut_133 : decode cX8_carryOut 133 = .ok (.iaload, 1) := by decide +kernel
theorem dX8_carryOut_134 : decode cX8_carryOut 134 = .ok (.invokevirtual 59, 3) := by decide +kernel
theorem dX8_carryOut_137 : decode cX8_carryOut 137 = .ok (.ireturn, 1) := by decide +kernel
theorem dX8_carryOut_138 : decode cX8_carryOut 138 = .ok (.aload_n 0, 1) := by decide +kernel
theorem dX8_carryOut_139 : decode cX8_carryOut 139 = .ok (.getfield 12, 3) := by decide +kernel
theorem dX8_carryOut_142 : decode cX8_carryOut 142 = .ok (.aload_n 2, 1) := by decide +kernel
theorem dX8_carryOut_143 : decode cX8_carryOut 143 = .ok (.iconst 0, 1) := by decide +kernel
theorem dX8_carryOut_144 : decode cX8_carryOut 144 = .ok (.iaload, 1) := by decide +kernel
theorem dX8_carryOut_145 : decode cX8_carryOut 145 = .ok (.iconst 0, 1) := by decide +kernel
theorem dX8_carryOut_146 : decode cX8_carryOut 146 = .ok (.invokevirtual 62, 3) := by decide +kernel
theorem dX8_carryOut_149 : decode cX8_carryOut 149 = .ok (.ireturn, 1) := by decide +kernel
theorem dX8_carryOut_150 : decode cX8_carryOut 150 = .ok (.aload_n 0, 1) := by decide +kernel
theorem dX8_carryOut_151 : decode cX8_carryOut 151 = .ok (.getfield 12, 3) := by decide +kernel
theorem dX8_carryOut_154 : decode cX8_carryOut 154 = .ok (.aload_n 2, 1) := by decide +kernel
theorem dX8_carryOut_155 : decode cX8_carryOut 155 = .ok (.iconst 0, 1) := by decide +kernel
theorem dX8_carryOut_156 : decode cX8_carryOut 156 = .ok (.iaload, 1) := by decide +kernel
theorem dX8_carryOut_157 : decode cX8_carryOut 157 = .ok (.iconst 1, 1) := by decide +kernel
theorem dX8_carryOut_158 : decode cX8_carryOut 158 = .ok (.invokevirtual 62, 3) := by decide +kernel
theorem dX8_carryOut_161 : decode cX8_carryOut 161 = .ok (.ireturn, 1) := by decide +kernel
theorem dX8_carryOut_162 : decode cX8_carryOut 162 = .ok (.aload_n 0, 1) := by decide +kernel
theorem dX8_carryOut_163 : decode cX8_carryOut 163 = .ok (.getfield 12, 3) := by decide +kernel
theorem dX8_carryOut_166 : decode cX8_carryOut 166 = .ok (.aload_n 2, 1) := by decide +kernel
theorem dX8_carryOut_167 : decode cX8_carryOut 167 = .ok (.iconst 0, 1) := by decide +kernel
theorem dX8_carryOut_168 : decode cX8_carryOut 168 = .ok (.iaload, 1) := by decide +kernel
theorem dX8_carryOut_169 : decode cX8_carryOut 169 = .ok (.invokevirtual 66, 3) := by decide +kernel
theorem dX8_carryOut_172 : decode cX8_carryOut 172 = .ok (.ireturn, 1) := by decide +kernel
theorem dX8_carryOut_173 : decode cX8_carryOut 173 = .ok (.aload_n 0, 1) := by decide +kernel
theorem dX8_carryOut_174 : decode cX8_carryOut 174 = .ok (.getfield 12, 3) := by decide +kernel
theorem dX8_carryOut_177 : decode cX8_carryOut 177 = .ok (.aload_n 2, 1) := by decide +kernel
theorem dX8_carryOut_178 : decode cX8_carryOut 178 = .ok (.iconst 0, 1) := by decide +kernel
theorem dX8_carryOut_179 : decode cX8_carryOut 179 = .ok (.iaload, 1) := by decide +kernel
theorem dX8_carryOut_180 : decode cX8_carryOut 180 = .ok (.aload_n 2, 1) := by decide +kernel
theorem dX8_carryOut_181 : decode cX8_carryOut 181 = .ok (.iconst 1, 1) := by decide +kernel
theorem dX8_carryOut_182 : decode cX8_carryOut 182 = .ok (.iaload, 1) := by decide +kernel
theorem dX8_carryOut_183 : decode cX8_carryOut 183 = .ok (.aload_n 2, 1) := by decide +kernel
theorem dX8_carryOut_184 : decode cX8_carryOut 184 = .ok (.iconst 2, 1) := by decide +kernel
theorem dX8_carryOut_185 : decode cX8_carryOut 185 = .ok (.iaload, 1) := by decide +kernel
theorem dX8_carryOut_186 : decode cX8_carryOut 186 = .ok (.aload_n 2, 1) := by decide +kernel
theorem dX8_carryOut_187 : decode cX8_carryOut 187 = .ok (.iconst 3, 1) := by decide +kernel
theorem dX8_carryOut_188 : decode cX8_carryOut 188 = .ok (.iaload, 1) := by decide +kernel
theorem dX8_carryOut_189 : decode cX8_carryOut 189 = .ok (.invokevirtual 69, 3) := by decide +kernel
theorem dX8_carryOut_192 : decode cX8_carryOut 192 = .ok (.ireturn, 1) := by decide +kernel
theorem dX8_carryOut_193 : decode cX8_carryOut 193 = .ok (.aload_n 0, 1) := by decide +kernel
theorem dX8_carryOut_194 : decode cX8_carryOut 194 = .ok (.getfield 12, 3) := by decide +kernel
theorem dX8_carryOut_197 : decode cX8_carryOut 197 = .ok (.aload_n 2, 1) := by decide +kernel
theorem dX8_carryOut_198 : decode cX8_carryOut 198 = .ok (.iconst 0, 1) := by decide +kernel
theorem dX8_carryOut_199 : decode cX8_carryOut 199 = .ok (.iaload, 1) := by decide +kernel
theorem dX8_carryOut_200 : decode cX8_carryOut 200 = .ok (.aload_n 2, 1) := by decide +kernel
theorem dX8_carryOut_201 : decode cX8_carryOut 201 = .ok (.iconst 1, 1) := by decide +kernel
theorem dX8_carryOut_202 : decode cX8_carryOut 202 = .ok (.iaload, 1) := by decide +kernel
theorem dX8_carryOut_203 : decode cX8_carryOut 203 = .ok (.invokevirtual 73, 3) := by decide +kernel
theorem dX8_carryOut_206 : decode cX8_carryOut 206 = .ok (.ireturn, 1) := by decide +kernel
theorem dX8_carryOut_207 : decode cX8_carryOut 207 = .ok (.aload_n 0, 1) := by decide +kernel
theorem dX8_carryOut_208 : decode cX8_carryOut 208 = .ok (.getfield 12, 3) := by decide +kernel
theorem dX8_carryOut_211 : decode cX8_carryOut 211 = .ok (.aload_n 2, 1) := by decide +kernel
theorem dX8_carryOut_212 : decode cX8_carryOut 212 = .ok (.iconst 0, 1) := by decide +kernel
theorem dX8_carryOut_213 : decode cX8_carryOut 213 = .ok (.iaload, 1) := by decide +kernel
theorem dX8_carryOut_214 : decode cX8_carryOut 214 = .ok (.aload_n 2, 1) := by decide +kernel
theorem dX8_carryOut_215 : decode cX8_carryOut 215 = .ok (.iconst 1, 1) := by decide +kernel
theorem dX8_carryOut_216 : decode cX8_carryOut 216 = .ok (.iaload, 1) := by decide +kernel
theorem dX8_carryOut_217 : decode cX8_carryOut 217 = .ok (.invokevirtual 48, 3) := by decide +kernel
theorem dX8_carryOut_220 : decode cX8_carryOut 220 = .ok (.ireturn, 1) := by decide +kernel
theorem dX8_carryOut_221 : decode cX8_carryOut 221 = .ok (.aload_n 0, 1) := by decide +kernel
theorem dX8_carryOut_222 : decode cX8_carryOut 222 = .ok (.getfield 12, 3) := by decide +kernel
theorem dX8_carryOut_225 : decode cX8_carryOut 225 = .ok (.invokevirtual 52, 3) := by decide +kernel
theorem dX8_carryOut_228 : decode cX8_carryOut 228 = .ok (.ireturn, 1) := by decide +kernel
theorem dX8_mix_0 : decode cX8_mix 0 = .ok (.ldc2_w 287, 3) := by decide +kernel
theorem dX8_mix_3 : decode cX8_mix 3 = .ok (.lload_n 0, 1) := by decide +kernel
theorem dX8_mix_4 : decode cX8_mix 4 = .ok (.lmul, 1) := by decide +kernel
theorem dX8_mix_5 : decode cX8_mix 5 = .ok (.iload_n 2, 1) := by decide +kernel
theorem dX8_mix_6 : decode cX8_mix 6 = .ok (.i2l, 1) := by decide +kernel
theorem dX8_mix_7 : decode cX8_mix 7 = .ok (.ladd, 1) := by decide +kernel
theorem dX8_mix_8 : decode cX8_mix 8 = .ok (.lreturn, 1) := by decide +kernel
theorem dX8_mixTeams_0 : decode cX8_mixTeams 0 = .ok (.lload_n 1, 1) := by decide +kernel
theorem dX8_mixTeams_1 : decode cX8_mixTeams 1 = .ok (.lstore_n 3, 1) := by decide +kernel
theorem dX8_mixTeams_2 : decode cX8_mixTeams 2 = .ok (.iconst 0, 1) := by decide +kernel
theorem dX8_mixTeams_3 : decode cX8_mixTeams 3 = .ok (.istore 5, 2) := by decide +kernel
theorem dX8_mixTeams_5 : decode cX8_mixTeams 5 = .ok (.iload 5, 2) := by decide +kernel
theorem dX8_mixTeams_7 : decode cX8_mixTeams 7 = .ok (.aload_n 0, 1) := by decide +kernel
theorem dX8_mixTeams_8 : decode cX8_mixTeams 8 = .ok (.getfield 12, 3) := by decide +kernel
theorem dX8_mixTeams_11 : decode cX8_mixTeams 11 = .ok (.getfield 161, 3) := by decide +kernel
theorem dX8_mixTeams_14 : decode cX8_mixTeams 14 = .ok (.getfield 289, 3) := by decide +kernel
theorem dX8_mixTeams_17 : decode cX8_mixTeams 17 = .ok (.if_icmp .ge 55, 3) := by decide +kernel
theorem dX8_mixTeams_20 : decode cX8_mixTeams 20 = .ok (.iconst 0, 1) := by decide +kernel
theorem dX8_mixTeams_21 : decode cX8_mixTeams 21 = .ok (.istore 6, 2) := by decide +kernel
theorem dX8_mixTeams_23 : decode cX8_mixTeams 23 = .ok (.iload 6, 2) := by decide +kernel
theorem dX8_mixTeams_25 : decode cX8_mixTeams 25 = .ok (.bipush 11, 2) := by decide +kernel
theorem dX8_mixTeams_27 : decode cX8_mixTeams 27 = .ok (.if_icmp .ge 25, 3) := by decide +kernel
theorem dX8_mixTeams_30 : decode cX8_mixTeams 30 = .ok (.lload_n 3, 1) := by decide +kernel
theorem dX8_mixTeams_31 : decode cX8_mixTeams 31 = .ok (.aload_n 0, 1) := by decide +kernel
theorem dX8_mixTeams_32 : decode cX8_mixTeams 32 = .ok (.getfield 12, 3) := by decide +kernel
theorem dX8_mixTeams_35 : decode cX8_mixTeams 35 = .ok (.iload 5, 2) := by decide +kernel
theorem dX8_mixTeams_37 : decode cX8_mixTeams 37 = .ok (.iload 6, 2) := by decide +kernel
theorem dX8_mixTeams_39 : decode cX8_mixTeams 39 = .ok (.invokevirtual 84, 3) := by decide +kernel
theorem dX8_mixTeams_42 : decode cX8_mixTeams 42 = .ok (.invokestatic 220, 3) := by decide +kernel
theorem dX8_mixTeams_45 : decode cX8_mixTeams 45 = .ok (.lstore_n 3, 1) := by decide +kernel
theorem dX8_mixTeams_46 : decode cX8_mixTeams 46 = .ok (.iinc 6 1, 3) := by decide +kernel
theorem dX8_mixTeams_49 : decode cX8_mixTeams 49 = .ok (.goto (-26), 3) := by decide +kernel
theorem dX8_mixTeams_52 : decode cX8_mixTeams 52 = .ok (.lload_n 3, 1) := by decide +kernel
theorem dX8_mixTeams_53 : decode cX8_mixTeams 53 = .ok (.aload_n 0, 1) := by decide +kernel
theorem dX8_mixTeams_54 : decode cX8_mixTeams 54 = .ok (.getfield 12, 3) := by decide +kernel
theorem dX8_mixTeams_57 : decode cX8_mixTeams 57 = .ok (.iload 5, 2) := by decide +kernel
theorem dX8_mixTeams_59 : decode cX8_mixTeams 59 = .ok (.invokevirtual 146, 3) := by decide +kernel
theorem dX8_mixTeams_62 : decode cX8_mixTeams 62 = .ok (.invokestatic 220, 3) := by decide +kernel
theorem dX8_mixTeams_65 : decode cX8_mixTeams 65 = .ok (.lstore_n 3, 1) := by decide +kernel
theorem dX8_mixTeams_66 : decode cX8_mixTeams 66 = .ok (.iinc 5 1, 3) := by decide +kernel
theorem dX8_mixTeams_69 : decode cX8_mixTeams 69 = .ok (.goto (-64), 3) := by decide +kernel
theorem dX8_mixTeams_72 : decode cX8_mixTeams 72 = .ok (.lload_n 3, 1) := by decide +kernel
theorem dX8_mixTeams_73 : decode cX8_mixTeams 73 = .ok (.lreturn, 1) := by decide +kernel
theorem dX8_mixChanges_0 : decode cX8_mixChanges 0 = .ok (.lload_n 1, 1) := by decide +kernel
theorem dX8_mixChanges_1 : decode cX8_mixChanges 1 = .ok (.lstore_n 3, 1) := by decide +kernel
theorem dX8_mixChanges_2 : decode cX8_mixChanges 2 = .ok (.iconst 0, 1) := by decide +kernel
theorem dX8_mixChanges_3 : decode cX8_mixChanges 3 = .ok (.istore 5, 2) := by decide +kernel
theorem dX8_mixChanges_5 : decode cX8_mixChanges 5 = .ok (.iload 5, 2) := by decide +kernel
theorem dX8_mixChanges_7 : decode cX8_mixChanges 7 = .ok (.aload_n 0, 1) := by decide +kernel
theorem dX8_mixChanges_8 : decode cX8_mixChanges 8 = .ok (.getfield 12, 3) := by decide +kernel
theorem dX8_mixChanges_11 : decode cX8_mixChanges 11 = .ok (.getfield 90, 3) := by decide +kernel
theorem dX8_mixChanges_14 : decode cX8_mixChanges 14 = .ok (.getfield 290, 3) := by decide +kernel
theorem dX8_mixChanges_17 : decode cX8_mixChanges 17 = .ok (.if_icmp .ge 44, 3) := by decide +kernel
theorem dX8_mixChanges_20 : decode cX8_mixChanges 20 = .ok (.iconst 0, 1) := by decide +kernel
theorem dX8_mixChanges_21 : decode cX8_mixChanges 21 = .ok (.istore 6, 2) := by decide +kernel
theorem dX8_mixChanges_23 : decode cX8_mixChanges 23 = .ok (.iload 6, 2) := by decide +kernel
theorem dX8_mixChanges_25 : decode cX8_mixChanges 25 = .ok (.bipush 7, 2) := by decide +kernel
theorem dX8_mixChanges_27 : decode cX8_mixChanges 27 = .ok (.if_icmp .ge 28, 3) := by decide +kernel
theorem dX8_mixChanges_30 : decode cX8_mixChanges 30 = .ok (.lload_n 3, 1) := by decide +kernel
theorem dX8_mixChanges_31 : decode cX8_mixChanges 31 = .ok (.aload_n 0, 1) := by decide +kernel
theorem dX8_mixChanges_32 : decode cX8_mixChanges 32 = .ok (.getfield 12, 3) := by decide +kernel
theorem dX8_mixChanges_35 : decode cX8_mixChanges 35 = .ok (.getfield 90, 3) := by decide +kernel
theorem dX8_mixChanges_38 : decode cX8_mixChanges 38 = .ok (.iload 5, 2) := by decide +kernel
theorem dX8_mixChanges_40 : decode cX8_mixChanges 40 = .ok (.iload 6, 2) := by decide +kernel
theorem dX8_mixChanges_42 : decode cX8_mixChanges 42 = .ok (.invokevirtual 94, 3) := by decide +kernel
theorem dX8_mixChanges_45 : decode cX8_mixChanges 45 = .ok (.invokestatic 220, 3) := by decide +kernel
theorem dX8_mixChanges_48 : decode cX8_mixChanges 48 = .ok (.lstore_n 3, 1) := by decide +kernel
theorem dX8_mixChanges_49 : decode cX8_mixChanges 49 = .ok (.iinc 6 1, 3) := by decide +kernel
theorem dX8_mixChanges_52 : decode cX8_mixChanges 52 = .ok (.goto (-29), 3) := by decide +kernel
theorem dX8_mixChanges_55 : decode cX8_mixChanges 55 = .ok (.iinc 5 1, 3) := by decide +kernel
theorem dX8_mixChanges_58 : decode cX8_mixChanges 58 = .ok (.goto (-53), 3) := by decide +kernel
theorem dX8_mixChanges_61 : decode cX8_mixChanges 61 = .ok (.iconst 0, 1) := by decide +kernel
theorem dX8_mixChanges_62 : decode cX8_mixChanges 62 = .ok (.istore 5, 2) := by decide +kernel
theorem dX8_mixChanges_64 : decode cX8_mixChanges 64 = .ok (.iload 5, 2) := by decide +kernel
theorem dX8_mixChanges_66 : decode cX8_mixChanges 66 = .ok (.aload_n 0, 1) := by decide +kernel
theorem dX8_mixChanges_67 : decode cX8_mixChanges 67 = .ok (.getfield 12, 3) := by decide +kernel
theorem dX8_mixChanges_70 : decode cX8_mixChanges 70 = .ok (.getfield 90, 3) := by decide +kernel
theorem dX8_mixChanges_73 : decode cX8_mixChanges 73 = .ok (.getfield 122, 3) := by decide +kernel
theorem dX8_mixChanges_76 : decode cX8_mixChanges 76 = .ok (.if_icmp .ge 27, 3) := by decide +kernel
theorem dX8_mixChanges_79 : decode cX8_mixChanges 79 = .ok (.lload_n 3, 1) := by decide +kernel
theorem dX8_mixChanges_80 : decode cX8_mixChanges 80 = .ok (.aload_n 0, 1) := by decide +kernel
theorem dX8_mixChanges_81 : decode cX8_mixChanges 81 = .ok (.getfield 12, 3) := by decide +kernel
theorem dX8_mixChanges_84 : decode cX8_mixChanges 84 = .ok (.getfield 90, 3) := by decide +kernel
theorem dX8_mixChanges_87 : decode cX8_mixChanges 87 = .ok (.getfield 126, 3) := by decide +kernel
theorem dX8_mixChanges_90 : decode cX8_mixChanges 90 = .ok (.iload 5, 2) := by decide +kernel
theorem dX8_mixChanges_92 : decode cX8_mixChanges 92 = .ok (.iaload, 1) := by decide +kernel
theorem dX8_mixChanges_93 : decode cX8_mixChanges 93 = .ok (.invokestatic 220, 3) := by decide +kernel
theorem dX8_mixChanges_96 : decode cX8_mixChanges 96 = .ok (.lstore_n 3, 1) := by decide +kernel
theorem dX8_mixChanges_97 : decode cX8_mixChanges 97 = .ok (.iinc 5 1, 3) := by decide +kernel
theorem dX8_mixChanges_100 : decode cX8_mixChanges 100 = .ok (.goto (-36), 3) := by decide +kernel
theorem dX8_mixChanges_103 : decode cX8_mixChanges 103 = .ok (.lload_n 3, 1) := by decide +kernel
theorem dX8_mixChanges_104 : decode cX8_mixChanges 104 = .ok (.lreturn, 1) := by decide +kernel
theorem dX8_mixLoans_0 : decode cX8_mixLoans 0 = .ok (.lload_n 1, 1) := by decide +kernel
theorem dX8_mixLoans_1 : decode cX8_mixLoans 1 = .ok (.lstore_n 3, 1) := by decide +kernel
theorem dX8_mixLoans_2 : decode cX8_mixLoans 2 = .ok (.iconst 0, 1) := by decide +kernel
theorem dX8_mixLoans_3 : decode cX8_mixLoans 3 = .ok (.istore 5, 2) := by decide +kernel
theorem dX8_mixLoans_5 : decode cX8_mixLoans 5 = .ok (.iload 5, 2) := by decide +kernel
theorem dX8_mixLoans_7 : decode cX8_mixLoans 7 = .ok (.aload_n 0, 1) := by decide +kernel
theorem dX8_mixLoans_8 : decode cX8_mixLoans 8 = .ok (.getfield 12, 3) := by decide +kernel
theorem dX8_mixLoans_11 : decode cX8_mixLoans 11 = .ok (.getfield 99, 3) := by decide +kernel
theorem dX8_mixLoans_14 : decode cX8_mixLoans 14 = .ok (.getfield 291, 3) := by decide +kernel
theorem dX8_mixLoans_17 : decode cX8_mixLoans 17 = .ok (.if_icmp .ge 44, 3) := by decide +kernel
theorem dX8_mixLoans_20 : decode cX8_mixLoans 20 = .ok (.iconst 0, 1) := by decide +kernel
theorem dX8_mixLoans_21 : decode cX8_mixLoans 21 = .ok (.istore 6, 2) := by decide +kernel
theorem dX8_mixLoans_23 : decode cX8_mixLoans 23 = .ok (.iload 6, 2) := by decide +kernel
theorem dX8_mixLoans_25 : decode cX8_mixLoans 25 = .ok (.bipush 6, 2) := by decide +kernel
theorem dX8_mixLoans_27 : decode cX8_mixLoans 27 = .ok (.if_icmp .ge 28, 3) := by decide +kernel
theorem dX8_mixLoans_30 : decode cX8_mixLoans 30 = .ok (.lload_n 3, 1) := by decide +kernel
theorem dX8_mixLoans_31 : decode cX8_mixLoans 31 = .ok (.aload_n 0, 1) := by decide +kernel
theorem dX8_mixLoans_32 : decode cX8_mixLoans 32 = .ok (.getfield 12, 3) := by decide +kernel
theorem dX8_mixLoans_35 : decode cX8_mixLoans 35 = .ok (.getfield 99, 3) := by decide +kernel
theorem dX8_mixLoans_38 : decode cX8_mixLoans 38 = .ok (.iload 5, 2) := by decide +kernel
theorem dX8_mixLoans_40 : decode cX8_mixLoans 40 = .ok (.iload 6, 2) := by decide +kernel
theorem dX8_mixLoans_42 : decode cX8_mixLoans 42 = .ok (.invokevirtual 116, 3) := by decide +kernel
theorem dX8_mixLoans_45 : decode cX8_mixLoans 45 = .ok (.invokestatic 220, 3) := by decide +kernel
theorem dX8_mixLoans_48 : decode cX8_mixLoans 48 = .ok (.lstore_n 3, 1) := by decide +kernel
theorem dX8_mixLoans_49 : decode cX8_mixLoans 49 = .ok (.iinc 6 1, 3) := by decide +kernel
theorem dX8_mixLoans_52 : decode cX8_mixLoans 52 = .ok (.goto (-29), 3) := by decide +kernel
theorem dX8_mixLoans_55 : decode cX8_mixLoans 55 = .ok (.iinc 5 1, 3) := by decide +kernel
theorem dX8_mixLoans_58 : decode cX8_mixLoans 58 = .ok (.goto (-53), 3) := by decide +kernel
theorem dX8_mixLoans_61 : decode cX8_mixLoans 61 = .ok (.lload_n 3, 1) := by decide +kernel
theorem dX8_mixLoans_62 : decode cX8_mixLoans 62 = .ok (.lreturn, 1) := by decide +kernel
theorem dJx29ce0_ordinal_8abf5_0 : decode cJx29ce0_ordinal_8abf5 0 = .ok (.aload_n 0, 1) := by decide +kernel
theorem dJx29ce0_ordinal_8abf5_1 : decode cJx29ce0_ordinal_8abf5 1 = .ok (.getfield 7, 3) := by decide +kernel
theorem dJx29ce0_ordinal_8abf5_4 : decode cJx29ce0_ordinal_8abf5 4 = .ok (.ireturn, 1) := by decide +kernel
theorem dJ9_max_7cf53_0 : decode cJ9_max_7cf53 0 = .ok (.iload_n 0, 1) := by decide +kernel
theorem dJ9_max_7cf53_1 : decode cJ9_max_7cf53 1 = .ok (.iload_n 1, 1) := by decide +kernel
theorem dJ9_max_7cf53_2 : decode cJ9_max_7cf53 2 = .ok (.if_icmp .lt 7, 3) := by decide +kernel
theorem dJ9_max_7cf53_5 : decode cJ9_max_7cf53 5 = .ok (.iload_n 0, 1) := by decide +kernel
theorem dJ9_max_7cf53_6 : decode cJ9_max_7cf53 6 = .ok (.goto 4, 3) := by decide +kernel
theorem dJ9_max_7cf53_9 : decode cJ9_max_7cf53 9 = .ok (.iload_n 1, 1) := by decide +kernel
theorem dJ9_max_7cf53_10 : decode cJ9_max_7cf53 10 = .ok (.ireturn, 1) := by decide +kernel
theorem dJ9_min_7cf53_0 : decode cJ9_min_7cf53 0 = .ok (.iload_n 0, 1) := by decide +kernel
theorem dJ9_min_7cf53_1 : decode cJ9_min_7cf53 1 = .ok (.iload_n 1, 1) := by decide +kernel
theorem dJ9_min_7cf53_2 : decode cJ9_min_7cf53 2 = .ok (.if_icmp .gt 7, 3) := by decide +kernel
theorem dJ9_min_7cf53_5 : decode cJ9_min_7cf53 5 = .ok (.iload_n 0, 1) := by decide +kernel
theorem dJ9_min_7cf53_6 : decode cJ9_min_7cf53 6 = .ok (.goto 4, 3) := by decide +kernel
theorem dJ9_min_7cf53_9 : decode cJ9_min_7cf53 9 = .ok (.iload_n 1, 1) := by decide +kernel
theorem dJ9_min_7cf53_10 : decode cJ9_min_7cf53 10 = .ok (.ireturn, 1) := by decide +kernel
theorem dJ0_length_8abf5_0 : decode cJ0_length_8abf5 0 = .ok (.aload_n 0, 1) := by decide +kernel
theorem dJ0_length_8abf5_1 : decode cJ0_length_8abf5 1 = .ok (.getfield 9, 3) := by decide +kernel
theorem dJ0_length_8abf5_4 : decode cJ0_length_8abf5 4 = .ok (.arraylength, 1) := by decide +kernel
theorem dJ0_length_8abf5_5 : decode cJ0_length_8abf5 5 = .ok (.aload_n 0, 1) := by decide +kernel
theorem dJ0_length_8abf5_6 : decode cJ0_length_8abf5 6 = .ok (.invokevirtual 335, 3) := by decide +kernel
theorem dJ0_length_8abf5_9 : decode cJ0_length_8abf5 9 = .ok (.ishr, 1) := by decide +kernel
theorem dJ0_length_8abf5_10 : decode cJ0_length_8abf5 10 = .ok (.ireturn, 1) := by decide +kernel
theorem dJ0_charAt_5068e_0 : decode cJ0_charAt_5068e 0 = .ok (.aload_n 0, 1) := by decide +kernel
theorem dJ0_charAt_5068e_1 : decode cJ0_charAt_5068e 1 = .ok (.invokevirtual 492, 3) := by decide +kernel
theorem dJ0_charAt_5068e_4 : decode cJ0_charAt_5068e 4 = .ok (.ifCond .eq 12, 3) := by decide +kernel
theorem dJ0_charAt_5068e_7 : decode cJ0_charAt_5068e 7 = .ok (.aload_n 0, 1) := by decide +kernel
theorem dJ0_charAt_5068e_8 : decode cJ0_charAt_5068e 8 = .ok (.getfield 9, 3) := by decide +kernel
theorem dJ0_charAt_5068e_11 : decode cJ0_charAt_5068e 11 = .ok (.iload_n 1, 1) := by decide +kernel
theorem dJ0_charAt_5068e_12 : decode cJ0_charAt_5068e 12 = .ok (.invokestatic 495, 3) := by decide +kernel
theorem dJ0_charAt_5068e_15 : decode cJ0_charAt_5068e 15 = .ok (.ireturn, 1) := by decide +kernel
theorem dJ0_charAt_5068e_16 : decode cJ0_charAt_5068e 16 = .ok (.aload_n 0, 1) := by decide +kernel
theorem dJ0_charAt_5068e_17 : decode cJ0_charAt_5068e 17 = .ok (.getfield 9, 3) := by decide +kernel
theorem dJ0_charAt_5068e_20 : decode cJ0_charAt_5068e 20 = .ok (.iload_n 1, 1) := by decide +kernel
theorem dJ0_charAt_5068e_21 : decode cJ0_charAt_5068e 21 = .ok (.invokestatic 498, 3) := by decide +kernel
theorem dJ0_charAt_5068e_24 : decode cJ0_charAt_5068e 24 = .ok (.ireturn, 1) := by decide +kernel
theorem dJ0_coder_7d493_0 : decode cJ0_coder_7d493 0 = .ok (.getstatic 38, 3) := by decide +kernel
theorem dJ0_coder_7d493_3 : decode cJ0_coder_7d493 3 = .ok (.ifCond .eq 10, 3) := by decide +kernel
theorem dJ0_coder_7d493_6 : decode cJ0_coder_7d493 6 = .ok (.aload_n 0, 1) := by decide +kernel
theorem dJ0_coder_7d493_7 : decode cJ0_coder_7d493 7 = .ok (.getfield 15, 3) := by decide +kernel
theorem dJ0_coder_7d493_10 : decode cJ0_coder_7d493 10 = .ok (.goto 4, 3) := by decide +kernel
theorem dJ0_coder_7d493_13 : decode cJ0_coder_7d493 13 = .ok (.iconst 1, 1) := by decide +kernel
theorem dJ0_coder_7d493_14 : decode cJ0_coder_7d493 14 = .ok (.ireturn, 1) := by decide +kernel
theorem dJ0_isLatin1_aae02_0 : decode cJ0_isLatin1_aae02 0 = .ok (.getstatic 38, 3) := by decide +kernel
theorem dJ0_isLatin1_aae02_3 : decode cJ0_isLatin1_aae02 3 = .ok (.ifCond .eq 14, 3) := by decide +kernel
theorem dJ0_isLatin1_aae02_6 : decode cJ0_isLatin1_aae02 6 = .ok (.aload_n 0, 1) := by decide +kernel
theorem dJ0_isLatin1_aae02_7 : decode cJ0_isLatin1_aae02 7 = .ok (.getfield 15, 3) := by decide +kernel
theorem dJ0_isLatin1_aae02_10 : decode cJ0_isLatin1_aae02 10 = .ok (.ifCond .ne 7, 3) := by decide +kernel
theorem dJ0_isLatin1_aae02_13 : decode cJ0_isLatin1_aae02 13 = .ok (.iconst 1, 1) := by decide +kernel
theorem dJ0_isLatin1_aae02_14 : decode cJ0_isLatin1_aae02 14 = .ok (.goto 4, 3) := by decide +kernel
theorem dJ0_isLatin1_aae02_17 : decode cJ0_isLatin1_aae02 17 = .ok (.iconst 0, 1) := by decide +kernel
theorem dJ0_isLatin1_aae02_18 : decode cJ0_isLatin1_aae02 18 = .ok (.ireturn, 1) := by decide +kernel
theorem dJ0_checkIndex_df160_0 : decode cJ0_checkIndex_df160 0 = .ok (.iload_n 0, 1) := by decide +kernel
theorem dJ0_checkIndex_df160_1 : decode cJ0_checkIndex_df160 1 = .ok (.iload_n 1, 1) := by decide +kernel
theorem dJ0_checkIndex_df160_2 : decode cJ0_checkIndex_df160 2 = .ok (.getstatic 1053, 3) := by decide +kernel
theorem dJ0_checkIndex_df160_5 : decode cJ0_checkIndex_df160 5 = .ok (.invokestatic 1059, 3) := by decide +kernel
theorem dJ0_checkIndex_df160_8 : decode cJ0_checkIndex_df160 8 = .ok (.pop, 1) := by decide +kernel
theorem dJ0_checkIndex_df160_9 : decode cJ0_checkIndex_df160 9 = .ok (.return_, 1) := by decide +kernel
theorem dJ1_charAt_3b067_0 : decode cJ1_charAt_3b067 0 = .ok (.iload_n 1, 1) := by decide +kernel
theorem dJ1_charAt_3b067_1 : decode cJ1_charAt_3b067 1 = .ok (.aload_n 0, 1) := by decide +kernel
theorem dJ1_charAt_3b067_2 : decode cJ1_charAt_3b067 2 = .ok (.arraylength, 1) := by decide +kernel
theorem dJ1_charAt_3b067_3 : decode cJ1_charAt_3b067 3 = .ok (.invokestatic 9, 3) := by decide +kernel
theorem dJ1_charAt_3b067_6 : decode cJ1_charAt_3b067 6 = .ok (.aload_n 0, 1) := by decide +kernel
theorem dJ1_charAt_3b067_7 : decode cJ1_charAt_3b067 7 = .ok (.iload_n 1, 1) := by decide +kernel
theorem dJ1_charAt_3b067_8 : decode cJ1_charAt_3b067 8 = .ok (.baload, 1) := by decide +kernel
theorem dJ1_charAt_3b067_9 : decode cJ1_charAt_3b067 9 = .ok (.sipush 255, 3) := by decide +kernel
theorem dJ1_charAt_3b067_12 : decode cJ1_charAt_3b067 12 = .ok (.iand, 1) := by decide +kernel
theorem dJ1_charAt_3b067_13 : decode cJ1_charAt_3b067 13 = .ok (.i2c, 1) := by decide +kernel
theorem dJ1_charAt_3b067_14 : decode cJ1_charAt_3b067 14 = .ok (.ireturn, 1) := by decide +kernel
theorem dJ2_getChar_3b067_0 : decode cJ2_getChar_3b067 0 = .ok (.getstatic 44, 3) := by decide +kernel
theorem dJ2_getChar_3b067_3 : decode cJ2_getChar_3b067 3 = .ok (.ifCond .ne 25, 3) := by decide +kernel
theorem dJ2_getChar_3b067_6 : decode cJ2_getChar_3b067 6 = .ok (.iload_n 1, 1) := by decide +kernel
theorem dJ2_getChar_3b067_7 : decode cJ2_getChar_3b067 7 = .ok (.ifCond .lt 11, 3) := by decide +kernel
theorem dJ2_getChar_3b067_10 : decode cJ2_getChar_3b067 10 = .ok (.iload_n 1, 1) := by decide +kernel
theorem dJ2_getChar_3b067_11 : decode cJ2_getChar_3b067 11 = .ok (.aload_n 0, 1) := by decide +kernel
theorem dJ2_getChar_3b067_12 : decode cJ2_getChar_3b067 12 = .ok (.invokestatic 48, 3) := by decide +kernel
theorem dJ2_getChar_3b067_15 : decode cJ2_getChar_3b067 15 = .ok (.if_icmp .lt 13, 3) := by decide +kernel
theorem dJ2_getChar_3b067_18 : decode cJ2_getChar_3b067 18 = .ok (.new 52, 3) := by decide +kernel
theorem dJ2_getChar_3b067_21 : decode cJ2_getChar_3b067 21 = .ok (.dup, 1) := by decide +kernel
theorem dJ2_getChar_3b067_22 : decode cJ2_getChar_3b067 22 = .ok (.ldc 54, 2) := by decide +kernel
theorem dJ2_getChar_3b067_24 : decode cJ2_getChar_3b067 24 = .ok (.invokespecial 56, 3) := by decide +kernel
theorem dJ2_getChar_3b067_27 : decode cJ2_getChar_3b067 27 = .ok (.athrow, 1) := by decide +kernel
theorem dJ2_getChar_3b067_28 : decode cJ2_getChar_3b067 28 = .ok (.iload_n 1, 1) := by decide +kernel
theorem dJ2_getChar_3b067_29 : decode cJ2_getChar_3b067 29 = .ok (.iconst 1, 1) := by decide +kernel
theorem dJ2_getChar_3b067_30 : decode cJ2_getChar_3b067 30 = .ok (.ishl, 1) := by decide +kernel
theorem dJ2_getChar_3b067_31 : decode cJ2_getChar_3b067 31 = .ok (.istore_n 1, 1) := by decide +kernel
theorem dJ2_getChar_3b067_32 : decode cJ2_getChar_3b067 32 = .ok (.aload_n 0, 1) := by decide +kernel
theorem dJ2_getChar_3b067_33 : decode cJ2_getChar_3b067 33 = .ok (.iload_n 1, 1) := by decide +kernel
theorem dJ2_getChar_3b067_34 : decode cJ2_getChar_3b067 34 = .ok (.iinc 1 1, 3) := by decide +kernel
theorem dJ2_getChar_3b067_37 : decode cJ2_getChar_3b067 37 = .ok (.baload, 1) := by decide +kernel
theorem dJ2_getChar_3b067_38 : decode cJ2_getChar_3b067 38 = .ok (.sipush 255, 3) := by decide +kernel
theorem dJ2_getChar_3b067_41 : decode cJ2_getChar_3b067 41 = .ok (.iand, 1) := by decide +kernel
theorem dJ2_getChar_3b067_42 : decode cJ2_getChar_3b067 42 = .ok (.getstatic 59, 3) := by decide +kernel
theorem dJ2_getChar_3b067_45 : decode cJ2_getChar_3b067 45 = .ok (.ishl, 1) := by decide +kernel
theorem dJ2_getChar_3b067_46 : decode cJ2_getChar_3b067 46 = .ok (.aload_n 0, 1) := by decide +kernel
theorem dJ2_getChar_3b067_47 : decode cJ2_getChar_3b067 47 = .ok (.iload_n 1, 1) := by decide +kernel
theorem dJ2_getChar_3b067_48 : decode cJ2_getChar_3b067 48 = .ok (.baload, 1) := by decide +kernel
theorem dJ2_getChar_3b067_49 : decode cJ2_getChar_3b067 49 = .ok (.sipush 255, 3) := by decide +kernel
theorem dJ2_getChar_3b067_52 : decode cJ2_getChar_3b067 52 = .ok (.iand, 1) := by decide +kernel
theorem dJ2_getChar_3b067_53 : decode cJ2_getChar_3b067 53 = .ok (.getstatic 63, 3) := by decide +kernel
theorem dJ2_getChar_3b067_56 : decode cJ2_getChar_3b067 56 = .ok (.ishl, 1) := by decide +kernel
theorem dJ2_getChar_3b067_57 : decode cJ2_getChar_3b067 57 = .ok (.ior, 1) := by decide +kernel
theorem dJ2_getChar_3b067_58 : decode cJ2_getChar_3b067 58 = .ok (.i2c, 1) := by decide +kernel
theorem dJ2_getChar_3b067_59 : decode cJ2_getChar_3b067 59 = .ok (.ireturn, 1) := by decide +kernel
theorem dJ2_length_9d52b_0 : decode cJ2_length_9d52b 0 = .ok (.aload_n 0, 1) := by decide +kernel
theorem dJ2_length_9d52b_1 : decode cJ2_length_9d52b 1 = .ok (.arraylength, 1) := by decide +kernel
theorem dJ2_length_9d52b_2 : decode cJ2_length_9d52b 2 = .ok (.iconst 1, 1) := by decide +kernel
theorem dJ2_length_9d52b_3 : decode cJ2_length_9d52b 3 = .ok (.ishr, 1) := by decide +kernel
theorem dJ2_length_9d52b_4 : decode cJ2_length_9d52b 4 = .ok (.ireturn, 1) := by decide +kernel
theorem dJ2_charAt_3b067_0 : decode cJ2_charAt_3b067 0 = .ok (.iload_n 1, 1) := by decide +kernel
theorem dJ2_charAt_3b067_1 : decode cJ2_charAt_3b067 1 = .ok (.aload_n 0, 1) := by decide +kernel
theorem dJ2_charAt_3b067_2 : decode cJ2_charAt_3b067 2 = .ok (.invokestatic 67, 3) := by decide +kernel
theorem dJ2_charAt_3b067_5 : decode cJ2_charAt_3b067 5 = .ok (.aload_n 0, 1) := by decide +kernel
theorem dJ2_charAt_3b067_6 : decode cJ2_charAt_3b067 6 = .ok (.iload_n 1, 1) := by decide +kernel
theorem dJ2_charAt_3b067_7 : decode cJ2_charAt_3b067 7 = .ok (.invokestatic 71, 3) := by decide +kernel
theorem dJ2_charAt_3b067_10 : decode cJ2_charAt_3b067 10 = .ok (.ireturn, 1) := by decide +kernel
theorem dJ2_checkIndex_2214a_0 : decode cJ2_checkIndex_2214a 0 = .ok (.iload_n 0, 1) := by decide +kernel
theorem dJ2_checkIndex_2214a_1 : decode cJ2_checkIndex_2214a 1 = .ok (.aload_n 1, 1) := by decide +kernel
theorem dJ2_checkIndex_2214a_2 : decode cJ2_checkIndex_2214a 2 = .ok (.invokestatic 48, 3) := by decide +kernel
theorem dJ2_checkIndex_2214a_5 : decode cJ2_checkIndex_2214a 5 = .ok (.invokestatic 414, 3) := by decide +kernel
theorem dJ2_checkIndex_2214a_8 : decode cJ2_checkIndex_2214a 8 = .ok (.return_, 1) := by decide +kernel
theorem dJ3_checkIndex_8e157_0 : decode cJ3_checkIndex_8e157 0 = .ok (.iload_n 0, 1) := by decide +kernel
theorem dJ3_checkIndex_8e157_1 : decode cJ3_checkIndex_8e157 1 = .ok (.ifCond .lt 8, 3) := by decide +kernel
theorem dJ3_checkIndex_8e157_4 : decode cJ3_checkIndex_8e157 4 = .ok (.iload_n 0, 1) := by decide +kernel
theorem dJ3_checkIndex_8e157_5 : decode cJ3_checkIndex_8e157 5 = .ok (.iload_n 1, 1) := by decide +kernel
theorem dJ3_checkIndex_8e157_6 : decode cJ3_checkIndex_8e157 6 = .ok (.if_icmp .lt 10, 3) := by decide +kernel
theorem dJ3_checkIndex_8e157_9 : decode cJ3_checkIndex_8e157 9 = .ok (.aload_n 2, 1) := by decide +kernel
theorem dJ3_checkIndex_8e157_10 : decode cJ3_checkIndex_8e157 10 = .ok (.iload_n 0, 1) := by decide +kernel
theorem dJ3_checkIndex_8e157_11 : decode cJ3_checkIndex_8e157 11 = .ok (.iload_n 1, 1) := by decide +kernel
theorem dJ3_checkIndex_8e157_12 : decode cJ3_checkIndex_8e157 12 = .ok (.invokestatic 95, 3) := by decide +kernel
theorem dJ3_checkIndex_8e157_15 : decode cJ3_checkIndex_8e157 15 = .ok (.athrow, 1) := by decide +kernel
theorem dJ3_checkIndex_8e157_16 : decode cJ3_checkIndex_8e157 16 = .ok (.iload_n 0, 1) := by decide +kernel
theorem dJ3_checkIndex_8e157_17 : decode cJ3_checkIndex_8e157 17 = .ok (.ireturn, 1) := by decide +kernel
theorem dL_cell_0 : decode cL_cell 0 = .ok (.iload_n 1, 1) := by decide +kernel
theorem dL_cell_1 : decode cL_cell 1 = .ok (.aload_n 0, 1) := by decide +kernel
theorem dL_cell_2 : decode cL_cell 2 = .ok (.arraylength, 1) := by decide +kernel
theorem dL_cell_3 : decode cL_cell 3 = .ok (.if_icmp .ge 9, 3) := by decide +kernel
theorem dL_cell_6 : decode cL_cell 6 = .ok (.aload_n 0, 1) := by decide +kernel
theorem dL_cell_7 : decode cL_cell 7 = .ok (.iload_n 1, 1) := by decide +kernel
theorem dL_cell_8 : decode cL_cell 8 = .ok (.iaload, 1) := by decide +kernel
theorem dL_cell_9 : decode cL_cell 9 = .ok (.goto 11, 3) := by decide +kernel
theorem dL_cell_12 : decode cL_cell 12 = .ok (.ldc 7, 2) := by decide +kernel
theorem dL_cell_14 : decode cL_cell 14 = .ok (.iload_n 1, 1) := by decide +kernel
theorem dL_cell_15 : decode cL_cell 15 = .ok (.imul, 1) := by decide +kernel
theorem dL_cell_16 : decode cL_cell 16 = .ok (.sipush 181, 3) := by decide +kernel
theorem dL_cell_19 : decode cL_cell 19 = .ok (.iadd, 1) := by decide +kernel
theorem dL_cell_20 : decode cL_cell 20 = .ok (.ldc 8, 2) := by decide +kernel
theorem dL_cell_22 : decode cL_cell 22 = .ok (.iand, 1) := by decide +kernel
theorem dL_cell_23 : decode cL_cell 23 = .ok (.ireturn, 1) := by decide +kernel
theorem dL_addTeam_0 : decode cL_addTeam 0 = .ok (.aload_n 0, 1) := by decide +kernel
theorem dL_addTeam_1 : decode cL_addTeam 1 = .ok (.iload_n 1, 1) := by decide +kernel
theorem dL_addTeam_2 : decode cL_addTeam 2 = .ok (.invokevirtual 9, 3) := by decide +kernel
theorem dL_addTeam_5 : decode cL_addTeam 5 = .ok (.ireturn, 1) := by decide +kernel
theorem dL_addTeam_6 : decode cL_addTeam 6 = .ok (.astore_n 2, 1) := by decide +kernel
theorem dL_addTeam_7 : decode cL_addTeam 7 = .ok (.bipush (-11), 2) := by decide +kernel
theorem dL_addTeam_9 : decode cL_addTeam 9 = .ok (.ireturn, 1) := by decide +kernel
theorem dL_addTeam_10 : decode cL_addTeam 10 = .ok (.astore_n 2, 1) := by decide +kernel
theorem dL_addTeam_11 : decode cL_addTeam 11 = .ok (.bipush (-12), 2) := by decide +kernel
theorem dL_addTeam_13 : decode cL_addTeam 13 = .ok (.ireturn, 1) := by decide +kernel
theorem dL_freeze_0 : decode cL_freeze 0 = .ok (.aload_n 0, 1) := by decide +kernel
theorem dL_freeze_1 : decode cL_freeze 1 = .ok (.iload_n 1, 1) := by decide +kernel
theorem dL_freeze_2 : decode cL_freeze 2 = .ok (.iload_n 2, 1) := by decide +kernel
theorem dL_freeze_3 : decode cL_freeze 3 = .ok (.iload_n 3, 1) := by decide +kernel
theorem dL_freeze_4 : decode cL_freeze 4 = .ok (.invokevirtual 19, 3) := by decide +kernel
theorem dL_freeze_7 : decode cL_freeze 7 = .ok (.ireturn, 1) := by decide +kernel
theorem dL_freeze_8 : decode cL_freeze 8 = .ok (.astore 4, 2) := by decide +kernel
theorem dL_freeze_10 : decode cL_freeze 10 = .ok (.bipush (-11), 2) := by decide +kernel
theorem dL_freeze_12 : decode cL_freeze 12 = .ok (.ireturn, 1) := by decide +kernel
theorem dL_freeze_13 : decode cL_freeze 13 = .ok (.astore 4, 2) := by decide +kernel
theorem dL_freeze_15 : decode cL_freeze 15 = .ok (.bipush (-12), 2) := by decide +kernel
theorem dL_freeze_17 : decode cL_freeze 17 = .ok (.ireturn, 1) := by decide +kernel
theorem dL_set_0 : decode cL_set 0 = .ok (.aload_n 0, 1) := by decide +kernel
theorem dL_set_1 : decode cL_set 1 = .ok (.iload_n 1, 1) := by decide +kernel
theorem dL_set_2 : decode cL_set 2 = .ok (.iload_n 2, 1) := by decide +kernel
theorem dL_set_3 : decode cL_set 3 = .ok (.invokevirtual 23, 3) := by decide +kernel
theorem dL_set_6 : decode cL_set 6 = .ok (.ireturn, 1) := by decide +kernel
theorem dL_set_7 : decode cL_set 7 = .ok (.astore_n 3, 1) := by decide +kernel
theorem dL_set_8 : decode cL_set 8 = .ok (.bipush (-11), 2) := by decide +kernel
theorem dL_set_10 : decode cL_set 10 = .ok (.ireturn, 1) := by decide +kernel
theorem dL_endWeek_0 : decode cL_endWeek 0 = .ok (.aload_n 0, 1) := by decide +kernel
theorem dL_endWeek_1 : decode cL_endWeek 1 = .ok (.invokevirtual 27, 3) := by decide +kernel
theorem dL_endWeek_4 : decode cL_endWeek 4 = .ok (.ireturn, 1) := by decide +kernel
theorem dL_endWeek_5 : decode cL_endWeek 5 = .ok (.astore_n 1, 1) := by decide +kernel
theorem dL_endWeek_6 : decode cL_endWeek 6 = .ok (.bipush (-11), 2) := by decide +kernel
theorem dL_endWeek_8 : decode cL_endWeek 8 = .ok (.ireturn, 1) := by decide +kernel
theorem dL_ask_0 : decode cL_ask 0 = .ok (.aload_n 0, 1) := by decide +kernel
theorem dL_ask_1 : decode cL_ask 1 = .ok (.iload_n 1, 1) := by decide +kernel
theorem dL_ask_2 : decode cL_ask 2 = .ok (.iload_n 2, 1) := by decide +kernel
theorem dL_ask_3 : decode cL_ask 3 = .ok (.invokevirtual 31, 3) := by decide +kernel
theorem dL_ask_6 : decode cL_ask 6 = .ok (.ireturn, 1) := by decide +kernel
theorem dL_ask_7 : decode cL_ask 7 = .ok (.astore_n 3, 1) := by decide +kernel
theorem dL_ask_8 : decode cL_ask 8 = .ok (.bipush (-11), 2) := by decide +kernel
theorem dL_ask_10 : decode cL_ask 10 = .ok (.ireturn, 1) := by decide +kernel
theorem dL_ask_11 : decode cL_ask 11 = .ok (.astore_n 3, 1) := by decide +kernel
theorem dL_ask_12 : decode cL_ask 12 = .ok (.bipush (-12), 2) := by decide +kernel
theorem dL_ask_14 : decode cL_ask 14 = .ok (.ireturn, 1) := by decide +kernel
theorem dL_ask_15 : decode cL_ask 15 = .ok (.astore_n 3, 1) := by decide +kernel
theorem dL_ask_16 : decode cL_ask 16 = .ok (.bipush (-13), 2) := by decide +kernel
theorem dL_ask_18 : decode cL_ask 18 = .ok (.ireturn, 1) := by decide +kernel
theorem dL_exempt_0 : decode cL_exempt 0 = .ok (.aload_n 0, 1) := by decide +kernel
theorem dL_exempt_1 : decode cL_exempt 1 = .ok (.iload_n 1, 1) := by decide +kernel
theorem dL_exempt_2 : decode cL_exempt 2 = .ok (.invokevirtual 36, 3) := by decide +kernel
theorem dL_exempt_5 : decode cL_exempt 5 = .ok (.ireturn, 1) := by decide +kernel
theorem dL_exempt_6 : decode cL_exempt 6 = .ok (.astore_n 2, 1) := by decide +kernel
theorem dL_exempt_7 : decode cL_exempt 7 = .ok (.bipush (-11), 2) := by decide +kernel
theorem dL_exempt_9 : decode cL_exempt 9 = .ok (.ireturn, 1) := by decide +kernel
theorem dL_exempt_10 : decode cL_exempt 10 = .ok (.astore_n 2, 1) := by decide +kernel
theorem dL_exempt_11 : decode cL_exempt 11 = .ok (.bipush (-12), 2) := by decide +kernel
theorem dL_exempt_13 : decode cL_exempt 13 = .ok (.ireturn, 1) := by decide +kernel
theorem dL_make_0 : decode cL_make 0 = .ok (.aload_n 0, 1) := by decide +kernel
theorem dL_make_1 : decode cL_make 1 = .ok (.iload_n 1, 1) := by decide +kernel
theorem dL_make_2 : decode cL_make 2 = .ok (.iload_n 2, 1) := by decide +kernel
theorem dL_make_3 : decode cL_make 3 = .ok (.invokevirtual 39, 3) := by decide +kernel
theorem dL_make_6 : decode cL_make 6 = .ok (.ireturn, 1) := by decide +kernel
theorem dL_make_7 : decode cL_make 7 = .ok (.astore_n 3, 1) := by decide +kernel
theorem dL_make_8 : decode cL_make 8 = .ok (.bipush (-11), 2) := by decide +kernel
theorem dL_make_10 : decode cL_make 10 = .ok (.ireturn, 1) := by decide +kernel
theorem dL_make_11 : decode cL_make 11 = .ok (.astore_n 3, 1) := by decide +kernel
theorem dL_make_12 : decode cL_make 12 = .ok (.bipush (-12), 2) := by decide +kernel
theorem dL_make_14 : decode cL_make 14 = .ok (.ireturn, 1) := by decide +kernel
theorem dL_giveUp_0 : decode cL_giveUp 0 = .ok (.aload_n 0, 1) := by decide +kernel
theorem dL_giveUp_1 : decode cL_giveUp 1 = .ok (.iload_n 1, 1) := by decide +kernel
theorem dL_giveUp_2 : decode cL_giveUp 2 = .ok (.invokevirtual 43, 3) := by decide +kernel
theorem dL_giveUp_5 : decode cL_giveUp 5 = .ok (.ireturn, 1) := by decide +kernel
theorem dL_giveUp_6 : decode cL_giveUp 6 = .ok (.astore_n 2, 1) := by decide +kernel
theorem dL_giveUp_7 : decode cL_giveUp 7 = .ok (.bipush (-11), 2) := by decide +kernel
theorem dL_giveUp_9 : decode cL_giveUp 9 = .ok (.ireturn, 1) := by decide +kernel
theorem dL_giveUp_10 : decode cL_giveUp 10 = .ok (.astore_n 2, 1) := by decide +kernel
theorem dL_giveUp_11 : decode cL_giveUp 11 = .ok (.bipush (-12), 2) := by decide +kernel
theorem dL_giveUp_13 : decode cL_giveUp 13 = .ok (.ireturn, 1) := by decide +kernel
theorem dL_lend_0 : decode cL_lend 0 = .ok (.aload_n 0, 1) := by decide +kernel
theorem dL_lend_1 : decode cL_lend 1 = .ok (.iload_n 1, 1) := by decide +kernel
theorem dL_lend_2 : decode cL_lend 2 = .ok (.iload_n 2, 1) := by decide +kernel
theorem dL_lend_3 : decode cL_lend 3 = .ok (.iload_n 3, 1) := by decide +kernel
theorem dL_lend_4 : decode cL_lend 4 = .ok (.iload 4, 2) := by decide +kernel
theorem dL_lend_6 : decode cL_lend 6 = .ok (.invokevirtual 46, 3) := by decide +kernel
theorem dL_lend_9 : decode cL_lend 9 = .ok (.ireturn, 1) := by decide +kernel
theorem dL_lend_10 : decode cL_lend 10 = .ok (.astore 5, 2) := by decide +kernel
theorem dL_lend_12 : decode cL_lend 12 = .ok (.bipush (-11), 2) := by decide +kernel
theorem dL_lend_14 : decode cL_lend 14 = .ok (.ireturn, 1) := by decide +kernel
theorem dL_lend_15 : decode cL_lend 15 = .ok (.astore 5, 2) := by decide +kernel
theorem dL_lend_17 : decode cL_lend 17 = .ok (.bipush (-12), 2) := by decide +kernel
theorem dL_lend_19 : decode cL_lend 19 = .ok (.ireturn, 1) := by decide +kernel
theorem dL_lend_20 : decode cL_lend 20 = .ok (.astore 5, 2) := by decide +kernel
theorem dL_lend_22 : decode cL_lend 22 = .ok (.bipush (-13), 2) := by decide +kernel
theorem dL_lend_24 : decode cL_lend 24 = .ok (.ireturn, 1) := by decide +kernel
theorem dL_repay_0 : decode cL_repay 0 = .ok (.aload_n 0, 1) := by decide +kernel
theorem dL_repay_1 : decode cL_repay 1 = .ok (.iload_n 1, 1) := by decide +kernel
theorem dL_repay_2 : decode cL_repay 2 = .ok (.iload_n 2, 1) := by decide +kernel
theorem dL_repay_3 : decode cL_repay 3 = .ok (.invokevirtual 50, 3) := by decide +kernel
theorem dL_repay_6 : decode cL_repay 6 = .ok (.ireturn, 1) := by decide +kernel
theorem dL_repay_7 : decode cL_repay 7 = .ok (.astore_n 3, 1) := by decide +kernel
theorem dL_repay_8 : decode cL_repay 8 = .ok (.bipush (-11), 2) := by decide +kernel
theorem dL_repay_10 : decode cL_repay 10 = .ok (.ireturn, 1) := by decide +kernel
theorem dL_repay_11 : decode cL_repay 11 = .ok (.astore_n 3, 1) := by decide +kernel
theorem dL_repay_12 : decode cL_repay 12 = .ok (.bipush (-12), 2) := by decide +kernel
theorem dL_repay_14 : decode cL_repay 14 = .ok (.ireturn, 1) := by decide +kernel
theorem dL_repay_15 : decode cL_repay 15 = .ok (.astore_n 3, 1) := by decide +kernel
theorem dL_repay_16 : decode cL_repay 16 = .ok (.bipush (-13), 2) := by decide +kernel
theorem dL_repay_18 : decode cL_repay 18 = .ok (.ireturn, 1) := by decide +kernel
theorem dL_team_0 : decode cL_team 0 = .ok (.aload_n 0, 1) := by decide +kernel
theorem dL_team_1 : decode cL_team 1 = .ok (.iload_n 1, 1) := by decide +kernel
theorem dL_team_2 : decode cL_team 2 = .ok (.iload_n 2, 1) := by decide +kernel
theorem dL_team_3 : decode cL_team 3 = .ok (.invokevirtual 53, 3) := by decide +kernel
theorem dL_team_6 : decode cL_team 6 = .ok (.ireturn, 1) := by decide +kernel
theorem dL_team_7 : decode cL_team 7 = .ok (.astore_n 3, 1) := by decide +kernel
theorem dL_team_8 : decode cL_team 8 = .ok (.bipush (-11), 2) := by decide +kernel
theorem dL_team_10 : decode cL_team 10 = .ok (.ireturn, 1) := by decide +kernel
theorem dL_team_11 : decode cL_team 11 = .ok (.astore_n 3, 1) := by decide +kernel
theorem dL_team_12 : decode cL_team 12 = .ok (.bipush (-12), 2) := by decide +kernel
theorem dL_team_14 : decode cL_team 14 = .ok (.ireturn, 1) := by decide +kernel
theorem dL_change_0 : decode cL_change 0 = .ok (.aload_n 0, 1) := by decide +kernel
theorem dL_change_1 : decode cL_change 1 = .ok (.iload_n 1, 1) := by decide +kernel
theorem dL_change_2 : decode cL_change 2 = .ok (.iload_n 2, 1) := by decide +kernel
theorem dL_change_3 : decode cL_change 3 = .ok (.invokevirtual 56, 3) := by decide +kernel
theorem dL_change_6 : decode cL_change 6 = .ok (.ireturn, 1) := by decide +kernel
theorem dL_change_7 : decode cL_change 7 = .ok (.astore_n 3, 1) := by decide +kernel
theorem dL_change_8 : decode cL_change 8 = .ok (.bipush (-11), 2) := by decide +kernel
theorem dL_change_10 : decode cL_change 10 = .ok (.ireturn, 1) := by decide +kernel
theorem dL_change_11 : decode cL_change 11 = .ok (.astore_n 3, 1) := by decide +kernel
theorem dL_change_12 : decode cL_change 12 = .ok (.bipush (-12), 2) := by decide +kernel
theorem dL_change_14 : decode cL_change 14 = .ok (.ireturn, 1) := by decide +kernel
theorem dL_loan_0 : decode cL_loan 0 = .ok (.aload_n 0, 1) := by decide +kernel
theorem dL_loan_1 : decode cL_loan 1 = .ok (.iload_n 1, 1) := by decide +kernel
theorem dL_loan_2 : decode cL_loan 2 = .ok (.iload_n 2, 1) := by decide +kernel
theorem dL_loan_3 : decode cL_loan 3 = .ok (.invokevirtual 59, 3) := by decide +kernel
theorem dL_loan_6 : decode cL_loan 6 = .ok (.ireturn, 1) := by decide +kernel
theorem dL_loan_7 : decode cL_loan 7 = .ok (.astore_n 3, 1) := by decide +kernel
theorem dL_loan_8 : decode cL_loan 8 = .ok (.bipush (-11), 2) := by decide +kernel
theorem dL_loan_10 : decode cL_loan 10 = .ok (.ireturn, 1) := by decide +kernel
theorem dL_loan_11 : decode cL_loan 11 = .ok (.astore_n 3, 1) := by decide +kernel
theorem dL_loan_12 : decode cL_loan 12 = .ok (.bipush (-12), 2) := by decide +kernel
theorem dL_loan_14 : decode cL_loan 14 = .ok (.ireturn, 1) := by decide +kernel
theorem dL_waiting_0 : decode cL_waiting 0 = .ok (.aload_n 0, 1) := by decide +kernel
theorem dL_waiting_1 : decode cL_waiting 1 = .ok (.iload_n 1, 1) := by decide +kernel
theorem dL_waiting_2 : decode cL_waiting 2 = .ok (.invokevirtual 62, 3) := by decide +kernel
theorem dL_waiting_5 : decode cL_waiting 5 = .ok (.ireturn, 1) := by decide +kernel
theorem dL_waiting_6 : decode cL_waiting 6 = .ok (.astore_n 2, 1) := by decide +kernel
theorem dL_waiting_7 : decode cL_waiting 7 = .ok (.bipush (-11), 2) := by decide +kernel
theorem dL_waiting_9 : decode cL_waiting 9 = .ok (.ireturn, 1) := by decide +kernel
theorem dL_frozen_0 : decode cL_frozen 0 = .ok (.aload_n 0, 1) := by decide +kernel
theorem dL_frozen_1 : decode cL_frozen 1 = .ok (.iload_n 1, 1) := by decide +kernel
theorem dL_frozen_2 : decode cL_frozen 2 = .ok (.invokevirtual 65, 3) := by decide +kernel
theorem dL_frozen_5 : decode cL_frozen 5 = .ok (.ireturn, 1) := by decide +kernel
theorem dL_frozen_6 : decode cL_frozen 6 = .ok (.astore_n 2, 1) := by decide +kernel
theorem dL_frozen_7 : decode cL_frozen 7 = .ok (.bipush (-11), 2) := by decide +kernel
theorem dL_frozen_9 : decode cL_frozen 9 = .ok (.ireturn, 1) := by decide +kernel
theorem dL_whole_0 : decode cL_whole 0 = .ok (.aload_n 0, 1) := by decide +kernel
theorem dL_whole_1 : decode cL_whole 1 = .ok (.iload_n 1, 1) := by decide +kernel
theorem dL_whole_2 : decode cL_whole 2 = .ok (.invokevirtual 68, 3) := by decide +kernel
theorem dL_whole_5 : decode cL_whole 5 = .ok (.ireturn, 1) := by decide +kernel
theorem dL_whole_6 : decode cL_whole 6 = .ok (.astore_n 2, 1) := by decide +kernel
theorem dL_whole_7 : decode cL_whole 7 = .ok (.bipush (-11), 2) := by decide +kernel
theorem dL_whole_9 : decode cL_whole 9 = .ok (.ireturn, 1) := by decide +kernel
theorem dL_reason_0 : decode cL_reason 0 = .ok (.aload_n 0, 1) := by decide +kernel
theorem dL_reason_1 : decode cL_reason 1 = .ok (.iload_n 1, 1) := by decide +kernel
theorem dL_reason_2 : decode cL_reason 2 = .ok (.invokevirtual 71, 3) := by decide +kernel
theorem dL_reason_5 : decode cL_reason 5 = .ok (.ireturn, 1) := by decide +kernel
theorem dL_reason_6 : decode cL_reason 6 = .ok (.astore_n 2, 1) := by decide +kernel
theorem dL_reason_7 : decode cL_reason 7 = .ok (.bipush (-11), 2) := by decide +kernel
theorem dL_reason_9 : decode cL_reason 9 = .ok (.ireturn, 1) := by decide +kernel
theorem dL_exemptible_0 : decode cL_exemptible 0 = .ok (.aload_n 0, 1) := by decide +kernel
theorem dL_exemptible_1 : decode cL_exemptible 1 = .ok (.iload_n 1, 1) := by decide +kernel
theorem dL_exemptible_2 : decode cL_exemptible 2 = .ok (.invokevirtual 74, 3) := by decide +kernel
theorem dL_exemptible_5 : decode cL_exemptible 5 = .ok (.ireturn, 1) := by decide +kernel
theorem dL_exemptible_6 : decode cL_exemptible 6 = .ok (.astore_n 2, 1) := by decide +kernel
theorem dL_exemptible_7 : decode cL_exemptible 7 = .ok (.bipush (-11), 2) := by decide +kernel
theorem dL_exemptible_9 : decode cL_exemptible 9 = .ok (.ireturn, 1) := by decide +kernel
theorem dL_weeksUntil_0 : decode cL_weeksUntil 0 = .ok (.aload_n 0, 1) := by decide +kernel
theorem dL_weeksUntil_1 : decode cL_weeksUntil 1 = .ok (.iload_n 1, 1) := by decide +kernel
theorem dL_weeksUntil_2 : decode cL_weeksUntil 2 = .ok (.iload_n 2, 1) := by decide +kernel
theorem dL_weeksUntil_3 : decode cL_weeksUntil 3 = .ok (.invokevirtual 77, 3) := by decide +kernel
theorem dL_weeksUntil_6 : decode cL_weeksUntil 6 = .ok (.ireturn, 1) := by decide +kernel
theorem dL_weeksUntil_7 : decode cL_weeksUntil 7 = .ok (.astore_n 3, 1) := by decide +kernel
theorem dL_weeksUntil_8 : decode cL_weeksUntil 8 = .ok (.bipush (-11), 2) := by decide +kernel
theorem dL_weeksUntil_10 : decode cL_weeksUntil 10 = .ok (.ireturn, 1) := by decide +kernel
theorem dL_weeksUntil_11 : decode cL_weeksUntil 11 = .ok (.astore_n 3, 1) := by decide +kernel
theorem dL_weeksUntil_12 : decode cL_weeksUntil 12 = .ok (.bipush (-12), 2) := by decide +kernel
theorem dL_weeksUntil_14 : decode cL_weeksUntil 14 = .ok (.ireturn, 1) := by decide +kernel
theorem dL_lender_0 : decode cL_lender 0 = .ok (.aload_n 0, 1) := by decide +kernel
theorem dL_lender_1 : decode cL_lender 1 = .ok (.iload_n 1, 1) := by decide +kernel
theorem dL_lender_2 : decode cL_lender 2 = .ok (.iload_n 2, 1) := by decide +kernel
theorem dL_lender_3 : decode cL_lender 3 = .ok (.invokevirtual 80, 3) := by decide +kernel
theorem dL_lender_6 : decode cL_lender 6 = .ok (.ireturn, 1) := by decide +kernel
theorem dL_lender_7 : decode cL_lender 7 = .ok (.astore_n 3, 1) := by decide +kernel
theorem dL_lender_8 : decode cL_lender 8 = .ok (.bipush (-11), 2) := by decide +kernel
theorem dL_lender_10 : decode cL_lender 10 = .ok (.ireturn, 1) := by decide +kernel
theorem dL_lender_11 : decode cL_lender 11 = .ok (.astore_n 3, 1) := by decide +kernel
theorem dL_lender_12 : decode cL_lender 12 = .ok (.bipush (-12), 2) := by decide +kernel
theorem dL_lender_14 : decode cL_lender 14 = .ok (.ireturn, 1) := by decide +kernel
theorem dL_inBeing_0 : decode cL_inBeing 0 = .ok (.aload_n 0, 1) := by decide +kernel
theorem dL_inBeing_1 : decode cL_inBeing 1 = .ok (.iload_n 1, 1) := by decide +kernel
theorem dL_inBeing_2 : decode cL_inBeing 2 = .ok (.invokevirtual 83, 3) := by decide +kernel
theorem dL_inBeing_5 : decode cL_inBeing 5 = .ok (.ireturn, 1) := by decide +kernel
theorem dL_inBeing_6 : decode cL_inBeing 6 = .ok (.astore_n 2, 1) := by decide +kernel
theorem dL_inBeing_7 : decode cL_inBeing 7 = .ok (.bipush (-11), 2) := by decide +kernel
theorem dL_inBeing_9 : decode cL_inBeing 9 = .ok (.ireturn, 1) := by decide +kernel
theorem dL_type_0 : decode cL_type 0 = .ok (.aload_n 0, 1) := by decide +kernel
theorem dL_type_1 : decode cL_type 1 = .ok (.iload_n 1, 1) := by decide +kernel
theorem dL_type_2 : decode cL_type 2 = .ok (.invokevirtual 86, 3) := by decide +kernel
theorem dL_type_5 : decode cL_type 5 = .ok (.ireturn, 1) := by decide +kernel
theorem dL_type_6 : decode cL_type 6 = .ok (.astore_n 2, 1) := by decide +kernel
theorem dL_type_7 : decode cL_type 7 = .ok (.bipush (-11), 2) := by decide +kernel
theorem dL_type_9 : decode cL_type 9 = .ok (.ireturn, 1) := by decide +kernel
theorem dL_type_10 : decode cL_type 10 = .ok (.astore_n 2, 1) := by decide +kernel
theorem dL_type_11 : decode cL_type 11 = .ok (.bipush (-12), 2) := by decide +kernel
theorem dL_type_13 : decode cL_type 13 = .ok (.ireturn, 1) := by decide +kernel
theorem dL_undo_0 : decode cL_undo 0 = .ok (.aload_n 0, 1) := by decide +kernel
theorem dL_undo_1 : decode cL_undo 1 = .ok (.invokevirtual 89, 3) := by decide +kernel
theorem dL_undo_4 : decode cL_undo 4 = .ok (.ireturn, 1) := by decide +kernel
theorem dL_undo_5 : decode cL_undo 5 = .ok (.astore_n 1, 1) := by decide +kernel
theorem dL_undo_6 : decode cL_undo 6 = .ok (.bipush (-11), 2) := by decide +kernel
theorem dL_undo_8 : decode cL_undo 8 = .ok (.ireturn, 1) := by decide +kernel
theorem dL_isSound_0 : decode cL_isSound 0 = .ok (.iconst 0, 1) := by decide +kernel
theorem dL_isSound_1 : decode cL_isSound 1 = .ok (.istore_n 1, 1) := by decide +kernel
theorem dL_isSound_2 : decode cL_isSound 2 = .ok (.iconst 0, 1) := by decide +kernel
theorem dL_isSound_3 : decode cL_isSound 3 = .ok (.istore_n 2, 1) := by decide +kernel
theorem dL_isSound_4 : decode cL_isSound 4 = .ok (.iconst 0, 1) := by decide +kernel
theorem dL_isSound_5 : decode cL_isSound 5 = .ok (.istore_n 3, 1) := by decide +kernel
theorem dL_isSound_6 : decode cL_isSound 6 = .ok (.iconst 0, 1) := by decide +kernel
theorem dL_isSound_7 : decode cL_isSound 7 = .ok (.istore 4, 2) := by decide +kernel
theorem dL_isSound_9 : decode cL_isSound 9 = .ok (.iconst 0, 1) := by decide +kernel
theorem dL_isSound_10 : decode cL_isSound 10 = .ok (.istore 5, 2) := by decide +kernel
theorem dL_isSound_12 : decode cL_isSound 12 = .ok (.iconst 0, 1) := by decide +kernel
theorem dL_isSound_13 : decode cL_isSound 13 = .ok (.istore 6, 2) := by decide +kernel
theorem dL_isSound_15 : decode cL_isSound 15 = .ok (.iconst 0, 1) := by decide +kernel
theorem dL_isSound_16 : decode cL_isSound 16 = .ok (.istore 7, 2) := by decide +kernel
theorem dL_isSound_18 : decode cL_isSound 18 = .ok (.iconst 0, 1) := by decide +kernel
theorem dL_isSound_19 : decode cL_isSound 19 = .ok (.istore 8, 2) := by decide +kernel
theorem dL_isSound_21 : decode cL_isSound 21 = .ok (.aload_n 0, 1) := by decide +kernel
theorem dL_isSound_22 : decode cL_isSound 22 = .ok (.bipush 12, 2) := by decide +kernel
theorem dL_isSound_24 : decode cL_isSound 24 = .ok (.invokestatic 92, 3) := by decide +kernel
theorem dL_isSound_27 : decode cL_isSound 27 = .ok (.aload_n 0, 1) := by decide +kernel
theorem dL_isSound_28 : decode cL_isSound 28 = .ok (.bipush 13, 2) := by decide +kernel
theorem dL_isSound_30 : decode cL_isSound 30 = .ok (.invokestatic 92, 3) := by decide +kernel
theorem dL_isSound_33 : decode cL_isSound 33 = .ok (.iadd, 1) := by decide +kernel
theorem dL_isSound_34 : decode cL_isSound 34 = .ok (.aload_n 0, 1) := by decide +kernel
theorem dL_isSound_35 : decode cL_isSound 35 = .ok (.bipush 14, 2) := by decide +kernel
theorem dL_isSound_37 : decode cL_isSound 37 = .ok (.invokestatic 92, 3) := by decide +kernel
theorem dL_isSound_40 : decode cL_isSound 40 = .ok (.aload_n 0, 1) := by decide +kernel
theorem dL_isSound_41 : decode cL_isSound 41 = .ok (.bipush 10, 2) := by decide +kernel
theorem dL_isSound_43 : decode cL_isSound 43 = .ok (.invokestatic 92, 3) := by decide +kernel
theorem dL_isSound_46 : decode cL_isSound 46 = .ok (.iadd, 1) := by decide +kernel
theorem dL_isSound_47 : decode cL_isSound 47 = .ok (.aload_n 0, 1) := by decide +kernel
theorem dL_isSound_48 : decode cL_isSound 48 = .ok (.bipush 11, 2) := by decide +kernel
theorem dL_isSound_50 : decode cL_isSound 50 = .ok (.invokestatic 92, 3) := by decide +kernel
theorem dL_isSound_53 : decode cL_isSound 53 = .ok (.iadd, 1) := by decide +kernel
theorem dL_isSound_54 : decode cL_isSound 54 = .ok (.if_icmp .ne 28, 3) := by decide +kernel
theorem dL_isSound_57 : decode cL_isSound 57 = .ok (.aload_n 0, 1) := by decide +kernel
theorem dL_isSound_58 : decode cL_isSound 58 = .ok (.bipush 10, 2) := by decide +kernel
theorem dL_isSound_60 : decode cL_isSound 60 = .ok (.invokestatic 92, 3) := by decide +kernel
theorem dL_isSound_63 : decode cL_isSound 63 = .ok (.aload_n 0, 1) := by decide +kernel
theorem dL_isSound_64 : decode cL_isSound 64 = .ok (.bipush 11, 2) := by decide +kernel
theorem dL_isSound_66 : decode cL_isSound 66 = .ok (.invokestatic 92, 3) := by decide +kernel
theorem dL_isSound_69 : decode cL_isSound 69 = .ok (.iadd, 1) := by decide +kernel
theorem dL_isSound_70 : decode cL_isSound 70 = .ok (.aload_n 0, 1) := by decide +kernel
theorem dL_isSound_71 : decode cL_isSound 71 = .ok (.iconst 0, 1) := by decide +kernel
theorem dL_isSound_72 : decode cL_isSound 72 = .ok (.invokestatic 97, 3) := by decide +kernel
theorem dL_isSound_75 : decode cL_isSound 75 = .ok (.if_icmp .ne 7, 3) := by decide +kernel
theorem dL_isSound_78 : decode cL_isSound 78 = .ok (.iconst 1, 1) := by decide +kernel
theorem dL_isSound_79 : decode cL_isSound 79 = .ok (.goto 4, 3) := by decide +kernel
theorem dL_isSound_82 : decode cL_isSound 82 = .ok (.iconst 0, 1) := by decide +kernel
theorem dL_isSound_83 : decode cL_isSound 83 = .ok (.istore 9, 2) := by decide +kernel
theorem dL_isSound_85 : decode cL_isSound 85 = .ok (.iconst 0, 1) := by decide +kernel
theorem dL_isSound_86 : decode cL_isSound 86 = .ok (.istore 10, 2) := by decide +kernel
theorem dL_isSound_88 : decode cL_isSound 88 = .ok (.iload 10, 2) := by decide +kernel
theorem dL_isSound_90 : decode cL_isSound 90 = .ok (.aload_n 0, 1) := by decide +kernel
theorem dL_isSound_91 : decode cL_isSound 91 = .ok (.iconst 0, 1) := by decide +kernel
theorem dL_isSound_92 : decode cL_isSound 92 = .ok (.invokestatic 92, 3) := by decide +kernel
theorem dL_isSound_95 : decode cL_isSound 95 = .ok (.if_icmp .ge 181, 3) := by decide +kernel
theorem dL_isSound_98 : decode cL_isSound 98 = .ok (.iload 9, 2) := by decide +kernel
theorem dL_isSound_100 : decode cL_isSound 100 = .ok (.ifCond .eq 176, 3) := by decide +kernel
theorem dL_isSound_103 : decode cL_isSound 103 = .ok (.iload_n 1, 1) := by decide +kernel
theorem dL_isSound_104 : decode cL_isSound 104 = .ok (.aload_n 0, 1) := by decide +kernel
theorem dL_isSound_105 : decode cL_isSound 105 = .ok (.iload 10, 2) := by decide +kernel
theorem dL_isSound_107 : decode cL_isSound 107 = .ok (.iconst 0, 1) := by decide +kernel
theorem dL_isSound_108 : decode cL_isSound 108 = .ok (.invokestatic 99, 3) := by decide +kernel
theorem dL_isSound_111 : decode cL_isSound 111 = .ok (.iadd, 1) := by decide +kernel
theorem dL_isSound_112 : decode cL_isSound 112 = .ok (.istore_n 1, 1) := by decide +kernel
theorem dL_isSound_113 : decode cL_isSound 113 = .ok (.iload_n 2, 1) := by decide +kernel
theorem dL_isSound_114 : decode cL_isSound 114 = .ok (.aload_n 0, 1) := by decide +kernel
theorem dL_isSound_115 : decode cL_isSound 115 = .ok (.iload 10, 2) := by decide +kernel
theorem dL_isSound_117 : decode cL_isSound 117 = .ok (.iconst 1, 1) := by decide +kernel
theorem dL_isSound_118 : decode cL_isSound 118 = .ok (.invokestatic 99, 3) := by decide +kernel
theorem dL_isSound_121 : decode cL_isSound 121 = .ok (.iadd, 1) := by decide +kernel
theorem dL_isSound_122 : decode cL_isSound 122 = .ok (.istore_n 2, 1) := by decide +kernel
theorem dL_isSound_123 : decode cL_isSound 123 = .ok (.iload_n 3, 1) := by decide +kernel
theorem dL_isSound_124 : decode cL_isSound 124 = .ok (.aload_n 0, 1) := by decide +kernel
theorem dL_isSound_125 : decode cL_isSound 125 = .ok (.iload 10, 2) := by decide +kernel
theorem dL_isSound_127 : decode cL_isSound 127 = .ok (.iconst 2, 1) := by decide +kernel
theorem dL_isSound_128 : decode cL_isSound 128 = .ok (.invokestatic 99, 3) := by decide +kernel
theorem dL_isSound_131 : decode cL_isSound 131 = .ok (.iadd, 1) := by decide +kernel
theorem dL_isSound_132 : decode cL_isSound 132 = .ok (.istore_n 3, 1) := by decide +kernel
theorem dL_isSound_133 : decode cL_isSound 133 = .ok (.iload 4, 2) := by decide +kernel
theorem dL_isSound_135 : decode cL_isSound 135 = .ok (.aload_n 0, 1) := by decide +kernel
theorem dL_isSound_136 : decode cL_isSound 136 = .ok (.iload 10, 2) := by decide +kernel
theorem dL_isSound_138 : decode cL_isSound 138 = .ok (.iconst 3, 1) := by decide +kernel
theorem dL_isSound_139 : decode cL_isSound 139 = .ok (.invokestatic 99, 3) := by decide +kernel
theorem dL_isSound_142 : decode cL_isSound 142 = .ok (.iadd, 1) := by decide +kernel
theorem dL_isSound_143 : decode cL_isSound 143 = .ok (.istore 4, 2) := by decide +kernel
theorem dL_isSound_145 : decode cL_isSound 145 = .ok (.iload 5, 2) := by decide +kernel
theorem dL_isSound_147 : decode cL_isSound 147 = .ok (.aload_n 0, 1) := by decide +kernel
theorem dL_isSound_148 : decode cL_isSound 148 = .ok (.iload 10, 2) := by decide +kernel
theorem dL_isSound_150 : decode cL_isSound 150 = .ok (.iconst 4, 1) := by decide +kernel
theorem dL_isSound_151 : decode cL_isSound 151 = .ok (.invokestatic 99, 3) := by decide +kernel
theorem dL_isSound_154 : decode cL_isSound 154 = .ok (.iadd, 1) := by decide +kernel
theorem dL_isSound_155 : decode cL_isSound 155 = .ok (.istore 5, 2) := by decide +kernel
theorem dL_isSound_157 : decode cL_isSound 157 = .ok (.iload 7, 2) := by decide +kernel
theorem dL_isSound_159 : decode cL_isSound 159 = .ok (.aload_n 0, 1) := by decide +kernel
theorem dL_isSound_160 : decode cL_isSound 160 = .ok (.iload 10, 2) := by decide +kernel
theorem dL_isSound_162 : decode cL_isSound 162 = .ok (.bipush 7, 2) := by decide +kernel
theorem dL_isSound_164 : decode cL_isSound 164 = .ok (.invokestatic 99, 3) := by decide +kernel
theorem dL_isSound_167 : decode cL_isSound 167 = .ok (.iadd, 1) := by decide +kernel
theorem dL_isSound_168 : decode cL_isSound 168 = .ok (.istore 7, 2) := by decide +kernel
theorem dL_isSound_170 : decode cL_isSound 170 = .ok (.iload 8, 2) := by decide +kernel
theorem dL_isSound_172 : decode cL_isSound 172 = .ok (.aload_n 0, 1) := by decide +kernel
theorem dL_isSound_173 : decode cL_isSound 173 = .ok (.iload 10, 2) := by decide +kernel
theorem dL_isSound_175 : decode cL_isSound 175 = .ok (.bipush 8, 2) := by decide +kernel
theorem dL_isSound_177 : decode cL_isSound 177 = .ok (.invokestatic 99, 3) := by decide +kernel
theorem dL_isSound_180 : decode cL_isSound 180 = .ok (.iadd, 1) := by decide +kernel
theorem dL_isSound_181 : decode cL_isSound 181 = .ok (.istore 8, 2) := by decide +kernel
theorem dL_isSound_183 : decode cL_isSound 183 = .ok (.iload 6, 2) := by decide +kernel
theorem dL_isSound_185 : decode cL_isSound 185 = .ok (.aload_n 0, 1) := by decide +kernel
theorem dL_isSound_186 : decode cL_isSound 186 = .ok (.iload 10, 2) := by decide +kernel
theorem dL_isSound_188 : decode cL_isSound 188 = .ok (.bipush 9, 2) := by decide +kernel
theorem dL_isSound_190 : decode cL_isSound 190 = .ok (.invokestatic 99, 3) := by decide +kernel
theorem dL_isSound_193 : decode cL_isSound 193 = .ok (.iadd, 1) := by decide +kernel
theorem dL_isSound_194 : decode cL_isSound 194 = .ok (.istore 6, 2) := by decide +kernel
theorem dL_isSound_196 : decode cL_isSound 196 = .ok (.aload_n 0, 1) := by decide +kernel
theorem dL_isSound_197 : decode cL_isSound 197 = .ok (.iload 10, 2) := by decide +kernel
theorem dL_isSound_199 : decode cL_isSound 199 = .ok (.iconst 0, 1) := by decide +kernel
theorem dL_isSound_200 : decode cL_isSound 200 = .ok (.invokestatic 99, 3) := by decide +kernel
theorem dL_isSound_203 : decode cL_isSound 203 = .ok (.ifCond .lt 64, 3) := by decide +kernel
theorem dL_isSound_206 : decode cL_isSound 206 = .ok (.aload_n 0, 1) := by decide +kernel
theorem dL_isSound_207 : decode cL_isSound 207 = .ok (.iload 10, 2) := by decide +kernel
theorem dL_isSound_209 : decode cL_isSound 209 = .ok (.invokestatic 102, 3) := by decide +kernel
theorem dL_isSound_212 : decode cL_isSound 212 = .ok (.ifCond .lt 55, 3) := by decide +kernel
theorem dL_isSound_215 : decode cL_isSound 215 = .ok (.aload_n 0, 1) := by decide +kernel
theorem dL_isSound_216 : decode cL_isSound 216 = .ok (.iload 10, 2) := by decide +kernel
theorem dL_isSound_218 : decode cL_isSound 218 = .ok (.invokestatic 102, 3) := by decide +kernel
theorem dL_isSound_221 : decode cL_isSound 221 = .ok (.aload_n 0, 1) := by decide +kernel
theorem dL_isSound_222 : decode cL_isSound 222 = .ok (.iload 10, 2) := by decide +kernel
theorem dL_isSound_224 : decode cL_isSound 224 = .ok (.iconst 4, 1) := by decide +kernel
theorem dL_isSound_225 : decode cL_isSound 225 = .ok (.invokestatic 99, 3) := by decide +kernel
theorem dL_isSound_228 : decode cL_isSound 228 = .ok (.if_icmp .gt 39, 3) := by decide +kernel
theorem dL_isSound_231 : decode cL_isSound 231 = .ok (.aload_n 0, 1) := by decide +kernel
theorem dL_isSound_232 : decode cL_isSound 232 = .ok (.iload 10, 2) := by decide +kernel
theorem dL_isSound_234 : decode cL_isSound 234 = .ok (.bipush 9, 2) := by decide +kernel
theorem dL_isSound_236 : decode cL_isSound 236 = .ok (.invokestatic 99, 3) := by decide +kernel
theorem dL_isSound_239 : decode cL_isSound 239 = .ok (.ifCond .eq 24, 3) := by decide +kernel
theorem dL_isSound_242 : decode cL_isSound 242 = .ok (.aload_n 0, 1) := by decide +kernel
theorem dL_isSound_243 : decode cL_isSound 243 = .ok (.iload 10, 2) := by decide +kernel
theorem dL_isSound_245 : decode cL_isSound 245 = .ok (.invokestatic 102, 3) := by decide +kernel
theorem dL_isSound_248 : decode cL_isSound 248 = .ok (.ifCond .ne 19, 3) := by decide +kernel
theorem dL_isSound_251 : decode cL_isSound 251 = .ok (.aload_n 0, 1) := by decide +kernel
theorem dL_isSound_252 : decode cL_isSound 252 = .ok (.iload 10, 2) := by decide +kernel
theorem dL_isSound_254 : decode cL_isSound 254 = .ok (.bipush 9, 2) := by decide +kernel
theorem dL_isSound_256 : decode cL_isSound 256 = .ok (.invokestatic 104, 3) := by decide +kernel
theorem dL_isSound_259 : decode cL_isSound 259 = .ok (.iconst (-1), 1) := by decide +kernel
