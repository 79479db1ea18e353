theorem kM_init_0 : decode mM_init.2.1 0 = .ok (.aload_n 0, 1) := by decide +kernel
theorem kM_init_1 : decode mM_init.2.1 1 = .ok (.invokespecial 1, 3) := by decide +kernel
theorem kM_init_4 : decode mM_init.2.1 4 = .ok (.aload_n 0, 1) := by decide +kernel
theorem kM_init_5 : decode mM_init.2.1 5 = .ok (.bipush 48, 2) := by decide +kernel
theorem kM_init_7 : decode mM_init.2.1 7 = .ok (.newarray .int, 2) := by decide +kernel
theorem kM_init_9 : decode mM_init.2.1 9 = .ok (.putfield 7, 3) := by decide +kernel
theorem kM_init_12 : decode mM_init.2.1 12 = .ok (.aload_n 0, 1) := by decide +kernel
theorem kM_init_13 : decode mM_init.2.1 13 = .ok (.bipush 48, 2) := by decide +kernel
theorem kM_init_15 : decode mM_init.2.1 15 = .ok (.newarray .int, 2) := by decide +kernel
theorem kM_init_17 : decode mM_init.2.1 17 = .ok (.putfield 13, 3) := by decide +kernel
theorem kM_init_20 : decode mM_init.2.1 20 = .ok (.aload_n 0, 1) := by decide +kernel
theorem kM_init_21 : decode mM_init.2.1 21 = .ok (.bipush 48, 2) := by decide +kernel
theorem kM_init_23 : decode mM_init.2.1 23 = .ok (.newarray .long, 2) := by decide +kernel
theorem kM_init_25 : decode mM_init.2.1 25 = .ok (.putfield 16, 3) := by decide +kernel
theorem kM_init_28 : decode mM_init.2.1 28 = .ok (.aload_n 0, 1) := by decide +kernel
theorem kM_init_29 : decode mM_init.2.1 29 = .ok (.bipush 48, 2) := by decide +kernel
theorem kM_init_31 : decode mM_init.2.1 31 = .ok (.newarray .boolean, 2) := by decide +kernel
theorem kM_init_33 : decode mM_init.2.1 33 = .ok (.putfield 20, 3) := by decide +kernel
theorem kM_init_36 : decode mM_init.2.1 36 = .ok (.aload_n 0, 1) := by decide +kernel
theorem kM_init_37 : decode mM_init.2.1 37 = .ok (.bipush 48, 2) := by decide +kernel
theorem kM_init_39 : decode mM_init.2.1 39 = .ok (.newarray .boolean, 2) := by decide +kernel
theorem kM_init_41 : decode mM_init.2.1 41 = .ok (.putfield 24, 3) := by decide +kernel
theorem kM_init_44 : decode mM_init.2.1 44 = .ok (.aload_n 0, 1) := by decide +kernel
theorem kM_init_45 : decode mM_init.2.1 45 = .ok (.bipush 6, 2) := by decide +kernel
theorem kM_init_47 : decode mM_init.2.1 47 = .ok (.newarray .int, 2) := by decide +kernel
theorem kM_init_49 : decode mM_init.2.1 49 = .ok (.putfield 27, 3) := by decide +kernel
theorem kM_init_52 : decode mM_init.2.1 52 = .ok (.aload_n 0, 1) := by decide +kernel
theorem kM_init_53 : decode mM_init.2.1 53 = .ok (.bipush 6, 2) := by decide +kernel
theorem kM_init_55 : decode mM_init.2.1 55 = .ok (.newarray .int, 2) := by decide +kernel
theorem kM_init_57 : decode mM_init.2.1 57 = .ok (.putfield 30, 3) := by decide +kernel
theorem kM_init_60 : decode mM_init.2.1 60 = .ok (.aload_n 0, 1) := by decide +kernel
theorem kM_init_61 : decode mM_init.2.1 61 = .ok (.bipush 6, 2) := by decide +kernel
theorem kM_init_63 : decode mM_init.2.1 63 = .ok (.newarray .int, 2) := by decide +kernel
theorem kM_init_65 : decode mM_init.2.1 65 = .ok (.putfield 33, 3) := by decide +kernel
theorem kM_init_68 : decode mM_init.2.1 68 = .ok (.aload_n 0, 1) := by decide +kernel
theorem kM_init_69 : decode mM_init.2.1 69 = .ok (.bipush 72, 2) := by decide +kernel
theorem kM_init_71 : decode mM_init.2.1 71 = .ok (.newarray .int, 2) := by decide +kernel
theorem kM_init_73 : decode mM_init.2.1 73 = .ok (.putfield 36, 3) := by decide +kernel
theorem kM_init_76 : decode mM_init.2.1 76 = .ok (.aload_n 0, 1) := by decide +kernel
theorem kM_init_77 : decode mM_init.2.1 77 = .ok (.bipush 72, 2) := by decide +kernel
theorem kM_init_79 : decode mM_init.2.1 79 = .ok (.newarray .long, 2) := by decide +kernel
theorem kM_init_81 : decode mM_init.2.1 81 = .ok (.putfield 39, 3) := by decide +kernel
theorem kM_init_84 : decode mM_init.2.1 84 = .ok (.aload_n 0, 1) := by decide +kernel
theorem kM_init_85 : decode mM_init.2.1 85 = .ok (.bipush 72, 2) := by decide +kernel
theorem kM_init_87 : decode mM_init.2.1 87 = .ok (.newarray .boolean, 2) := by decide +kernel
theorem kM_init_89 : decode mM_init.2.1 89 = .ok (.putfield 42, 3) := by decide +kernel
theorem kM_init_92 : decode mM_init.2.1 92 = .ok (.return_, 1) := by decide +kernel
theorem kM_thrown_0 : decode mM_thrown.2.1 0 = .ok (.aload_n 0, 1) := by decide +kernel
theorem kM_thrown_1 : decode mM_thrown.2.1 1 = .ok (.getfield 45, 3) := by decide +kernel
theorem kM_thrown_4 : decode mM_thrown.2.1 4 = .ok (.ireturn, 1) := by decide +kernel
theorem kM_isKey_0 : decode mM_isKey.2.1 0 = .ok (.iload_n 0, 1) := by decide +kernel
theorem kM_isKey_1 : decode mM_isKey.2.1 1 = .ok (.ifCond .lt 13, 3) := by decide +kernel
theorem kM_isKey_4 : decode mM_isKey.2.1 4 = .ok (.iload_n 0, 1) := by decide +kernel
theorem kM_isKey_5 : decode mM_isKey.2.1 5 = .ok (.bipush 15, 2) := by decide +kernel
theorem kM_isKey_7 : decode mM_isKey.2.1 7 = .ok (.if_icmp .gt 7, 3) := by decide +kernel
theorem kM_isKey_10 : decode mM_isKey.2.1 10 = .ok (.iconst 1, 1) := by decide +kernel
theorem kM_isKey_11 : decode mM_isKey.2.1 11 = .ok (.goto 4, 3) := by decide +kernel
theorem kM_isKey_14 : decode mM_isKey.2.1 14 = .ok (.iconst 0, 1) := by decide +kernel
theorem kM_isKey_15 : decode mM_isKey.2.1 15 = .ok (.ireturn, 1) := by decide +kernel
theorem kM_place_0 : decode mM_place.2.1 0 = .ok (.iconst 0, 1) := by decide +kernel
theorem kM_place_1 : decode mM_place.2.1 1 = .ok (.istore_n 2, 1) := by decide +kernel
theorem kM_place_2 : decode mM_place.2.1 2 = .ok (.iload_n 2, 1) := by decide +kernel
theorem kM_place_3 : decode mM_place.2.1 3 = .ok (.bipush 6, 2) := by decide +kernel
theorem kM_place_5 : decode mM_place.2.1 5 = .ok (.if_icmp .ge 32, 3) := by decide +kernel
theorem kM_place_8 : decode mM_place.2.1 8 = .ok (.aload_n 0, 1) := by decide +kernel
theorem kM_place_9 : decode mM_place.2.1 9 = .ok (.getfield 27, 3) := by decide +kernel
theorem kM_place_12 : decode mM_place.2.1 12 = .ok (.iload_n 2, 1) := by decide +kernel
theorem kM_place_13 : decode mM_place.2.1 13 = .ok (.iaload, 1) := by decide +kernel
theorem kM_place_14 : decode mM_place.2.1 14 = .ok (.ifCond .le 17, 3) := by decide +kernel
theorem kM_place_17 : decode mM_place.2.1 17 = .ok (.aload_n 0, 1) := by decide +kernel
theorem kM_place_18 : decode mM_place.2.1 18 = .ok (.getfield 27, 3) := by decide +kernel
theorem kM_place_21 : decode mM_place.2.1 21 = .ok (.iload_n 2, 1) := by decide +kernel
theorem kM_place_22 : decode mM_place.2.1 22 = .ok (.iaload, 1) := by decide +kernel
theorem kM_place_23 : decode mM_place.2.1 23 = .ok (.iconst 1, 1) := by decide +kernel
theorem kM_place_24 : decode mM_place.2.1 24 = .ok (.isub, 1) := by decide +kernel
theorem kM_place_25 : decode mM_place.2.1 25 = .ok (.iload_n 1, 1) := by decide +kernel
theorem kM_place_26 : decode mM_place.2.1 26 = .ok (.if_icmp .ne 5, 3) := by decide +kernel
theorem kM_place_29 : decode mM_place.2.1 29 = .ok (.iload_n 2, 1) := by decide +kernel
theorem kM_place_30 : decode mM_place.2.1 30 = .ok (.ireturn, 1) := by decide +kernel
theorem kM_place_31 : decode mM_place.2.1 31 = .ok (.iinc 2 1, 3) := by decide +kernel
theorem kM_place_34 : decode mM_place.2.1 34 = .ok (.goto (-32), 3) := by decide +kernel
theorem kM_place_37 : decode mM_place.2.1 37 = .ok (.iconst (-1), 1) := by decide +kernel
theorem kM_place_38 : decode mM_place.2.1 38 = .ok (.ireturn, 1) := by decide +kernel
theorem kM_count_0 : decode mM_count.2.1 0 = .ok (.iconst 0, 1) := by decide +kernel
theorem kM_count_1 : decode mM_count.2.1 1 = .ok (.istore_n 1, 1) := by decide +kernel
theorem kM_count_2 : decode mM_count.2.1 2 = .ok (.iconst 0, 1) := by decide +kernel
theorem kM_count_3 : decode mM_count.2.1 3 = .ok (.istore_n 2, 1) := by decide +kernel
theorem kM_count_4 : decode mM_count.2.1 4 = .ok (.iload_n 2, 1) := by decide +kernel
theorem kM_count_5 : decode mM_count.2.1 5 = .ok (.bipush 6, 2) := by decide +kernel
theorem kM_count_7 : decode mM_count.2.1 7 = .ok (.if_icmp .ge 26, 3) := by decide +kernel
theorem kM_count_10 : decode mM_count.2.1 10 = .ok (.iload_n 1, 1) := by decide +kernel
theorem kM_count_11 : decode mM_count.2.1 11 = .ok (.aload_n 0, 1) := by decide +kernel
theorem kM_count_12 : decode mM_count.2.1 12 = .ok (.getfield 27, 3) := by decide +kernel
theorem kM_count_15 : decode mM_count.2.1 15 = .ok (.iload_n 2, 1) := by decide +kernel
theorem kM_count_16 : decode mM_count.2.1 16 = .ok (.iaload, 1) := by decide +kernel
theorem kM_count_17 : decode mM_count.2.1 17 = .ok (.ifCond .le 7, 3) := by decide +kernel
theorem kM_count_20 : decode mM_count.2.1 20 = .ok (.iconst 1, 1) := by decide +kernel
theorem kM_count_21 : decode mM_count.2.1 21 = .ok (.goto 4, 3) := by decide +kernel
theorem kM_count_24 : decode mM_count.2.1 24 = .ok (.iconst 0, 1) := by decide +kernel
theorem kM_count_25 : decode mM_count.2.1 25 = .ok (.iadd, 1) := by decide +kernel
theorem kM_count_26 : decode mM_count.2.1 26 = .ok (.istore_n 1, 1) := by decide +kernel
theorem kM_count_27 : decode mM_count.2.1 27 = .ok (.iinc 2 1, 3) := by decide +kernel
theorem kM_count_30 : decode mM_count.2.1 30 = .ok (.goto (-26), 3) := by decide +kernel
theorem kM_count_33 : decode mM_count.2.1 33 = .ok (.iload_n 1, 1) := by decide +kernel
theorem kM_count_34 : decode mM_count.2.1 34 = .ok (.ireturn, 1) := by decide +kernel
theorem kM_wrong_0 : decode mM_wrong.2.1 0 = .ok (.aload_n 0, 1) := by decide +kernel
theorem kM_wrong_1 : decode mM_wrong.2.1 1 = .ok (.iload_n 1, 1) := by decide +kernel
theorem kM_wrong_2 : decode mM_wrong.2.1 2 = .ok (.invokevirtual 49, 3) := by decide +kernel
theorem kM_wrong_5 : decode mM_wrong.2.1 5 = .ok (.ifCond .ge 7, 3) := by decide +kernel
theorem kM_wrong_8 : decode mM_wrong.2.1 8 = .ok (.iconst 1, 1) := by decide +kernel
theorem kM_wrong_9 : decode mM_wrong.2.1 9 = .ok (.goto 15, 3) := by decide +kernel
theorem kM_wrong_12 : decode mM_wrong.2.1 12 = .ok (.iload_n 2, 1) := by decide +kernel
theorem kM_wrong_13 : decode mM_wrong.2.1 13 = .ok (.invokestatic 53, 3) := by decide +kernel
theorem kM_wrong_16 : decode mM_wrong.2.1 16 = .ok (.ifCond .eq 7, 3) := by decide +kernel
theorem kM_wrong_19 : decode mM_wrong.2.1 19 = .ok (.iconst 0, 1) := by decide +kernel
theorem kM_wrong_20 : decode mM_wrong.2.1 20 = .ok (.goto 4, 3) := by decide +kernel
theorem kM_wrong_23 : decode mM_wrong.2.1 23 = .ok (.iconst 2, 1) := by decide +kernel
theorem kM_wrong_24 : decode mM_wrong.2.1 24 = .ok (.ireturn, 1) := by decide +kernel
theorem kM_enter_0 : decode mM_enter.2.1 0 = .ok (.iconst 0, 1) := by decide +kernel
theorem kM_enter_1 : decode mM_enter.2.1 1 = .ok (.istore_n 2, 1) := by decide +kernel
theorem kM_enter_2 : decode mM_enter.2.1 2 = .ok (.aload_n 0, 1) := by decide +kernel
theorem kM_enter_3 : decode mM_enter.2.1 3 = .ok (.getfield 27, 3) := by decide +kernel
theorem kM_enter_6 : decode mM_enter.2.1 6 = .ok (.iload_n 2, 1) := by decide +kernel
theorem kM_enter_7 : decode mM_enter.2.1 7 = .ok (.iaload, 1) := by decide +kernel
theorem kM_enter_8 : decode mM_enter.2.1 8 = .ok (.ifCond .le 9, 3) := by decide +kernel
theorem kM_enter_11 : decode mM_enter.2.1 11 = .ok (.iinc 2 1, 3) := by decide +kernel
theorem kM_enter_14 : decode mM_enter.2.1 14 = .ok (.goto (-12), 3) := by decide +kernel
theorem kM_enter_17 : decode mM_enter.2.1 17 = .ok (.aload_n 0, 1) := by decide +kernel
theorem kM_enter_18 : decode mM_enter.2.1 18 = .ok (.dup, 1) := by decide +kernel
theorem kM_enter_19 : decode mM_enter.2.1 19 = .ok (.getfield 57, 3) := by decide +kernel
theorem kM_enter_22 : decode mM_enter.2.1 22 = .ok (.iconst 1, 1) := by decide +kernel
theorem kM_enter_23 : decode mM_enter.2.1 23 = .ok (.iadd, 1) := by decide +kernel
theorem kM_enter_24 : decode mM_enter.2.1 24 = .ok (.putfield 57, 3) := by decide +kernel
theorem kM_enter_27 : decode mM_enter.2.1 27 = .ok (.aload_n 0, 1) := by decide +kernel
theorem kM_enter_28 : decode mM_enter.2.1 28 = .ok (.getfield 27, 3) := by decide +kernel
theorem kM_enter_31 : decode mM_enter.2.1 31 = .ok (.iload_n 2, 1) := by decide +kernel
theorem kM_enter_32 : decode mM_enter.2.1 32 = .ok (.aload_n 0, 1) := by decide +kernel
theorem kM_enter_33 : decode mM_enter.2.1 33 = .ok (.getfield 57, 3) := by decide +kernel
theorem kM_enter_36 : decode mM_enter.2.1 36 = .ok (.iastore, 1) := by decide +kernel
theorem kM_enter_37 : decode mM_enter.2.1 37 = .ok (.aload_n 0, 1) := by decide +kernel
theorem kM_enter_38 : decode mM_enter.2.1 38 = .ok (.getfield 30, 3) := by decide +kernel
theorem kM_enter_41 : decode mM_enter.2.1 41 = .ok (.iload_n 2, 1) := by decide +kernel
theorem kM_enter_42 : decode mM_enter.2.1 42 = .ok (.iload_n 1, 1) := by decide +kernel
theorem kM_enter_43 : decode mM_enter.2.1 43 = .ok (.iastore, 1) := by decide +kernel
theorem kM_enter_44 : decode mM_enter.2.1 44 = .ok (.aload_n 0, 1) := by decide +kernel
theorem kM_enter_45 : decode mM_enter.2.1 45 = .ok (.getfield 33, 3) := by decide +kernel
theorem kM_enter_48 : decode mM_enter.2.1 48 = .ok (.iload_n 2, 1) := by decide +kernel
theorem kM_enter_49 : decode mM_enter.2.1 49 = .ok (.iconst 0, 1) := by decide +kernel
theorem kM_enter_50 : decode mM_enter.2.1 50 = .ok (.iastore, 1) := by decide +kernel
theorem kM_enter_51 : decode mM_enter.2.1 51 = .ok (.aload_n 0, 1) := by decide +kernel
theorem kM_enter_52 : decode mM_enter.2.1 52 = .ok (.getfield 57, 3) := by decide +kernel
theorem kM_enter_55 : decode mM_enter.2.1 55 = .ok (.iconst 1, 1) := by decide +kernel
theorem kM_enter_56 : decode mM_enter.2.1 56 = .ok (.isub, 1) := by decide +kernel
theorem kM_enter_57 : decode mM_enter.2.1 57 = .ok (.ireturn, 1) := by decide +kernel
theorem kM_begin_0 : decode mM_begin.2.1 0 = .ok (.aload_n 0, 1) := by decide +kernel
theorem kM_begin_1 : decode mM_begin.2.1 1 = .ok (.aload_n 0, 1) := by decide +kernel
theorem kM_begin_2 : decode mM_begin.2.1 2 = .ok (.invokevirtual 60, 3) := by decide +kernel
theorem kM_begin_5 : decode mM_begin.2.1 5 = .ok (.bipush 6, 2) := by decide +kernel
theorem kM_begin_7 : decode mM_begin.2.1 7 = .ok (.if_icmp .ne 7, 3) := by decide +kernel
theorem kM_begin_10 : decode mM_begin.2.1 10 = .ok (.iconst 1, 1) := by decide +kernel
theorem kM_begin_11 : decode mM_begin.2.1 11 = .ok (.goto 4, 3) := by decide +kernel
theorem kM_begin_14 : decode mM_begin.2.1 14 = .ok (.iconst 0, 1) := by decide +kernel
theorem kM_begin_15 : decode mM_begin.2.1 15 = .ok (.putfield 45, 3) := by decide +kernel
theorem kM_begin_18 : decode mM_begin.2.1 18 = .ok (.aload_n 0, 1) := by decide +kernel
theorem kM_begin_19 : decode mM_begin.2.1 19 = .ok (.getfield 45, 3) := by decide +kernel
theorem kM_begin_22 : decode mM_begin.2.1 22 = .ok (.ifCond .ne 14, 3) := by decide +kernel
theorem kM_begin_25 : decode mM_begin.2.1 25 = .ok (.aload_n 0, 1) := by decide +kernel
theorem kM_begin_26 : decode mM_begin.2.1 26 = .ok (.aload_n 0, 1) := by decide +kernel
theorem kM_begin_27 : decode mM_begin.2.1 27 = .ok (.getfield 64, 3) := by decide +kernel
theorem kM_begin_30 : decode mM_begin.2.1 30 = .ok (.invokevirtual 67, 3) := by decide +kernel
theorem kM_begin_33 : decode mM_begin.2.1 33 = .ok (.goto 4, 3) := by decide +kernel
theorem kM_begin_36 : decode mM_begin.2.1 36 = .ok (.iconst 0, 1) := by decide +kernel
theorem kM_begin_37 : decode mM_begin.2.1 37 = .ok (.ireturn, 1) := by decide +kernel
theorem kM_beginAt_0 : decode mM_beginAt.2.1 0 = .ok (.aload_n 0, 1) := by decide +kernel
theorem kM_beginAt_1 : decode mM_beginAt.2.1 1 = .ok (.iload_n 1, 1) := by decide +kernel
theorem kM_beginAt_2 : decode mM_beginAt.2.1 2 = .ok (.aload_n 0, 1) := by decide +kernel
theorem kM_beginAt_3 : decode mM_beginAt.2.1 3 = .ok (.getfield 70, 3) := by decide +kernel
theorem kM_beginAt_6 : decode mM_beginAt.2.1 6 = .ok (.if_icmp .lt 11, 3) := by decide +kernel
theorem kM_beginAt_9 : decode mM_beginAt.2.1 9 = .ok (.iload_n 1, 1) := by decide +kernel
theorem kM_beginAt_10 : decode mM_beginAt.2.1 10 = .ok (.aload_n 0, 1) := by decide +kernel
theorem kM_beginAt_11 : decode mM_beginAt.2.1 11 = .ok (.getfield 64, 3) := by decide +kernel
theorem kM_beginAt_14 : decode mM_beginAt.2.1 14 = .ok (.if_icmp .le 7, 3) := by decide +kernel
theorem kM_beginAt_17 : decode mM_beginAt.2.1 17 = .ok (.iconst 1, 1) := by decide +kernel
theorem kM_beginAt_18 : decode mM_beginAt.2.1 18 = .ok (.goto 17, 3) := by decide +kernel
theorem kM_beginAt_21 : decode mM_beginAt.2.1 21 = .ok (.aload_n 0, 1) := by decide +kernel
theorem kM_beginAt_22 : decode mM_beginAt.2.1 22 = .ok (.invokevirtual 60, 3) := by decide +kernel
theorem kM_beginAt_25 : decode mM_beginAt.2.1 25 = .ok (.bipush 6, 2) := by decide +kernel
theorem kM_beginAt_27 : decode mM_beginAt.2.1 27 = .ok (.if_icmp .ne 7, 3) := by decide +kernel
theorem kM_beginAt_30 : decode mM_beginAt.2.1 30 = .ok (.iconst 2, 1) := by decide +kernel
theorem kM_beginAt_31 : decode mM_beginAt.2.1 31 = .ok (.goto 4, 3) := by decide +kernel
theorem kM_beginAt_34 : decode mM_beginAt.2.1 34 = .ok (.iconst 0, 1) := by decide +kernel
theorem kM_beginAt_35 : decode mM_beginAt.2.1 35 = .ok (.putfield 45, 3) := by decide +kernel
theorem kM_beginAt_38 : decode mM_beginAt.2.1 38 = .ok (.aload_n 0, 1) := by decide +kernel
theorem kM_beginAt_39 : decode mM_beginAt.2.1 39 = .ok (.getfield 45, 3) := by decide +kernel
theorem kM_beginAt_42 : decode mM_beginAt.2.1 42 = .ok (.ifCond .ne 11, 3) := by decide +kernel
theorem kM_beginAt_45 : decode mM_beginAt.2.1 45 = .ok (.aload_n 0, 1) := by decide +kernel
theorem kM_beginAt_46 : decode mM_beginAt.2.1 46 = .ok (.iload_n 1, 1) := by decide +kernel
theorem kM_beginAt_47 : decode mM_beginAt.2.1 47 = .ok (.invokevirtual 67, 3) := by decide +kernel
theorem kM_beginAt_50 : decode mM_beginAt.2.1 50 = .ok (.goto 4, 3) := by decide +kernel
theorem kM_beginAt_53 : decode mM_beginAt.2.1 53 = .ok (.iconst 0, 1) := by decide +kernel
theorem kM_beginAt_54 : decode mM_beginAt.2.1 54 = .ok (.ireturn, 1) := by decide +kernel
theorem kM_version_0 : decode mM_version.2.1 0 = .ok (.iconst (-1), 1) := by decide +kernel
theorem kM_version_1 : decode mM_version.2.1 1 = .ok (.istore_n 3, 1) := by decide +kernel
theorem kM_version_2 : decode mM_version.2.1 2 = .ok (.iconst 0, 1) := by decide +kernel
theorem kM_version_3 : decode mM_version.2.1 3 = .ok (.istore 4, 2) := by decide +kernel
theorem kM_version_5 : decode mM_version.2.1 5 = .ok (.iload 4, 2) := by decide +kernel
theorem kM_version_7 : decode mM_version.2.1 7 = .ok (.aload_n 0, 1) := by decide +kernel
theorem kM_version_8 : decode mM_version.2.1 8 = .ok (.getfield 73, 3) := by decide +kernel
theorem kM_version_11 : decode mM_version.2.1 11 = .ok (.if_icmp .ge 38, 3) := by decide +kernel
theorem kM_version_14 : decode mM_version.2.1 14 = .ok (.aload_n 0, 1) := by decide +kernel
theorem kM_version_15 : decode mM_version.2.1 15 = .ok (.getfield 7, 3) := by decide +kernel
theorem kM_version_18 : decode mM_version.2.1 18 = .ok (.iload 4, 2) := by decide +kernel
theorem kM_version_20 : decode mM_version.2.1 20 = .ok (.iaload, 1) := by decide +kernel
theorem kM_version_21 : decode mM_version.2.1 21 = .ok (.iload_n 1, 1) := by decide +kernel
theorem kM_version_22 : decode mM_version.2.1 22 = .ok (.if_icmp .ne 19, 3) := by decide +kernel
theorem kM_version_25 : decode mM_version.2.1 25 = .ok (.aload_n 0, 1) := by decide +kernel
theorem kM_version_26 : decode mM_version.2.1 26 = .ok (.getfield 13, 3) := by decide +kernel
theorem kM_version_29 : decode mM_version.2.1 29 = .ok (.iload 4, 2) := by decide +kernel
theorem kM_version_31 : decode mM_version.2.1 31 = .ok (.iaload, 1) := by decide +kernel
theorem kM_version_32 : decode mM_version.2.1 32 = .ok (.iload_n 2, 1) := by decide +kernel
theorem kM_version_33 : decode mM_version.2.1 33 = .ok (.if_icmp .gt 8, 3) := by decide +kernel
theorem kM_version_36 : decode mM_version.2.1 36 = .ok (.iload 4, 2) := by decide +kernel
theorem kM_version_38 : decode mM_version.2.1 38 = .ok (.goto 4, 3) := by decide +kernel
theorem kM_version_41 : decode mM_version.2.1 41 = .ok (.iload_n 3, 1) := by decide +kernel
theorem kM_version_42 : decode mM_version.2.1 42 = .ok (.istore_n 3, 1) := by decide +kernel
theorem kM_version_43 : decode mM_version.2.1 43 = .ok (.iinc 4 1, 3) := by decide +kernel
theorem kM_version_46 : decode mM_version.2.1 46 = .ok (.goto (-41), 3) := by decide +kernel
theorem kM_version_49 : decode mM_version.2.1 49 = .ok (.iload_n 3, 1) := by decide +kernel
theorem kM_version_50 : decode mM_version.2.1 50 = .ok (.ireturn, 1) := by decide +kernel
theorem kM_find_0 : decode mM_find.2.1 0 = .ok (.aload_n 0, 1) := by decide +kernel
theorem kM_find_1 : decode mM_find.2.1 1 = .ok (.iload_n 2, 1) := by decide +kernel
theorem kM_find_2 : decode mM_find.2.1 2 = .ok (.aload_n 0, 1) := by decide +kernel
theorem kM_find_3 : decode mM_find.2.1 3 = .ok (.getfield 30, 3) := by decide +kernel
theorem kM_find_6 : decode mM_find.2.1 6 = .ok (.iload_n 1, 1) := by decide +kernel
theorem kM_find_7 : decode mM_find.2.1 7 = .ok (.iaload, 1) := by decide +kernel
theorem kM_find_8 : decode mM_find.2.1 8 = .ok (.invokevirtual 76, 3) := by decide +kernel
theorem kM_find_11 : decode mM_find.2.1 11 = .ok (.istore_n 3, 1) := by decide +kernel
theorem kM_find_12 : decode mM_find.2.1 12 = .ok (.aload_n 0, 1) := by decide +kernel
theorem kM_find_13 : decode mM_find.2.1 13 = .ok (.iload_n 3, 1) := by decide +kernel
theorem kM_find_14 : decode mM_find.2.1 14 = .ok (.ifCond .lt 16, 3) := by decide +kernel
theorem kM_find_17 : decode mM_find.2.1 17 = .ok (.aload_n 0, 1) := by decide +kernel
theorem kM_find_18 : decode mM_find.2.1 18 = .ok (.getfield 20, 3) := by decide +kernel
theorem kM_find_21 : decode mM_find.2.1 21 = .ok (.iload_n 3, 1) := by decide +kernel
theorem kM_find_22 : decode mM_find.2.1 22 = .ok (.baload, 1) := by decide +kernel
theorem kM_find_23 : decode mM_find.2.1 23 = .ok (.ifCond .ne 7, 3) := by decide +kernel
theorem kM_find_26 : decode mM_find.2.1 26 = .ok (.iconst 1, 1) := by decide +kernel
theorem kM_find_27 : decode mM_find.2.1 27 = .ok (.goto 4, 3) := by decide +kernel
theorem kM_find_30 : decode mM_find.2.1 30 = .ok (.iconst 0, 1) := by decide +kernel
theorem kM_find_31 : decode mM_find.2.1 31 = .ok (.putfield 80, 3) := by decide +kernel
theorem kM_find_34 : decode mM_find.2.1 34 = .ok (.aload_n 0, 1) := by decide +kernel
theorem kM_find_35 : decode mM_find.2.1 35 = .ok (.iload_n 3, 1) := by decide +kernel
theorem kM_find_36 : decode mM_find.2.1 36 = .ok (.ifCond .lt 12, 3) := by decide +kernel
theorem kM_find_39 : decode mM_find.2.1 39 = .ok (.aload_n 0, 1) := by decide +kernel
theorem kM_find_40 : decode mM_find.2.1 40 = .ok (.getfield 16, 3) := by decide +kernel
theorem kM_find_43 : decode mM_find.2.1 43 = .ok (.iload_n 3, 1) := by decide +kernel
theorem kM_find_44 : decode mM_find.2.1 44 = .ok (.laload, 1) := by decide +kernel
theorem kM_find_45 : decode mM_find.2.1 45 = .ok (.goto 4, 3) := by decide +kernel
theorem kM_find_48 : decode mM_find.2.1 48 = .ok (.lconst 0, 1) := by decide +kernel
theorem kM_find_49 : decode mM_find.2.1 49 = .ok (.putfield 84, 3) := by decide +kernel
theorem kM_find_52 : decode mM_find.2.1 52 = .ok (.bipush 12, 2) := by decide +kernel
theorem kM_find_54 : decode mM_find.2.1 54 = .ok (.iload_n 1, 1) := by decide +kernel
theorem kM_find_55 : decode mM_find.2.1 55 = .ok (.imul, 1) := by decide +kernel
theorem kM_find_56 : decode mM_find.2.1 56 = .ok (.istore 4, 2) := by decide +kernel
theorem kM_find_58 : decode mM_find.2.1 58 = .ok (.iload 4, 2) := by decide +kernel
theorem kM_find_60 : decode mM_find.2.1 60 = .ok (.bipush 12, 2) := by decide +kernel
theorem kM_find_62 : decode mM_find.2.1 62 = .ok (.iload_n 1, 1) := by decide +kernel
theorem kM_find_63 : decode mM_find.2.1 63 = .ok (.imul, 1) := by decide +kernel
theorem kM_find_64 : decode mM_find.2.1 64 = .ok (.aload_n 0, 1) := by decide +kernel
theorem kM_find_65 : decode mM_find.2.1 65 = .ok (.getfield 33, 3) := by decide +kernel
theorem kM_find_68 : decode mM_find.2.1 68 = .ok (.iload_n 1, 1) := by decide +kernel
theorem kM_find_69 : decode mM_find.2.1 69 = .ok (.iaload, 1) := by decide +kernel
theorem kM_find_70 : decode mM_find.2.1 70 = .ok (.iadd, 1) := by decide +kernel
theorem kM_find_71 : decode mM_find.2.1 71 = .ok (.if_icmp .ge 50, 3) := by decide +kernel
theorem kM_find_74 : decode mM_find.2.1 74 = .ok (.aload_n 0, 1) := by decide +kernel
theorem kM_find_75 : decode mM_find.2.1 75 = .ok (.getfield 36, 3) := by decide +kernel
theorem kM_find_78 : decode mM_find.2.1 78 = .ok (.iload 4, 2) := by decide +kernel
theorem kM_find_80 : decode mM_find.2.1 80 = .ok (.iaload, 1) := by decide +kernel
theorem kM_find_81 : decode mM_find.2.1 81 = .ok (.iload_n 2, 1) := by decide +kernel
theorem kM_find_82 : decode mM_find.2.1 82 = .ok (.if_icmp .ne 33, 3) := by decide +kernel
theorem kM_find_85 : decode mM_find.2.1 85 = .ok (.aload_n 0, 1) := by decide +kernel
theorem kM_find_86 : decode mM_find.2.1 86 = .ok (.aload_n 0, 1) := by decide +kernel
theorem kM_find_87 : decode mM_find.2.1 87 = .ok (.getfield 42, 3) := by decide +kernel
theorem kM_find_90 : decode mM_find.2.1 90 = .ok (.iload 4, 2) := by decide +kernel
theorem kM_find_92 : decode mM_find.2.1 92 = .ok (.baload, 1) := by decide +kernel
theorem kM_find_93 : decode mM_find.2.1 93 = .ok (.ifCond .ne 7, 3) := by decide +kernel
theorem kM_find_96 : decode mM_find.2.1 96 = .ok (.iconst 1, 1) := by decide +kernel
theorem kM_find_97 : decode mM_find.2.1 97 = .ok (.goto 4, 3) := by decide +kernel
theorem kM_find_100 : decode mM_find.2.1 100 = .ok (.iconst 0, 1) := by decide +kernel
theorem kM_find_101 : decode mM_find.2.1 101 = .ok (.putfield 80, 3) := by decide +kernel
theorem kM_find_104 : decode mM_find.2.1 104 = .ok (.aload_n 0, 1) := by decide +kernel
theorem kM_find_105 : decode mM_find.2.1 105 = .ok (.aload_n 0, 1) := by decide +kernel
theorem kM_find_106 : decode mM_find.2.1 106 = .ok (.getfield 39, 3) := by decide +kernel
theorem kM_find_109 : decode mM_find.2.1 109 = .ok (.iload 4, 2) := by decide +kernel
theorem kM_find_111 : decode mM_find.2.1 111 = .ok (.laload, 1) := by decide +kernel
theorem kM_find_112 : decode mM_find.2.1 112 = .ok (.putfield 84, 3) := by decide +kernel
theorem kM_find_115 : decode mM_find.2.1 115 = .ok (.iinc 4 1, 3) := by decide +kernel
theorem kM_find_118 : decode mM_find.2.1 118 = .ok (.goto (-60), 3) := by decide +kernel
theorem kM_find_121 : decode mM_find.2.1 121 = .ok (.aload_n 0, 1) := by decide +kernel
theorem kM_find_122 : decode mM_find.2.1 122 = .ok (.getfield 80, 3) := by decide +kernel
theorem kM_find_125 : decode mM_find.2.1 125 = .ok (.ireturn, 1) := by decide +kernel
theorem kM_read_0 : decode mM_read.2.1 0 = .ok (.aload_n 0, 1) := by decide +kernel
theorem kM_read_1 : decode mM_read.2.1 1 = .ok (.aload_n 0, 1) := by decide +kernel
theorem kM_read_2 : decode mM_read.2.1 2 = .ok (.iload_n 1, 1) := by decide +kernel
theorem kM_read_3 : decode mM_read.2.1 3 = .ok (.iload_n 2, 1) := by decide +kernel
theorem kM_read_4 : decode mM_read.2.1 4 = .ok (.invokevirtual 88, 3) := by decide +kernel
theorem kM_read_7 : decode mM_read.2.1 7 = .ok (.putfield 45, 3) := by decide +kernel
theorem kM_read_10 : decode mM_read.2.1 10 = .ok (.aload_n 0, 1) := by decide +kernel
theorem kM_read_11 : decode mM_read.2.1 11 = .ok (.getfield 45, 3) := by decide +kernel
theorem kM_read_14 : decode mM_read.2.1 14 = .ok (.ifCond .eq 5, 3) := by decide +kernel
theorem kM_read_17 : decode mM_read.2.1 17 = .ok (.lconst 0, 1) := by decide +kernel
theorem kM_read_18 : decode mM_read.2.1 18 = .ok (.lreturn, 1) := by decide +kernel
theorem kM_read_19 : decode mM_read.2.1 19 = .ok (.aload_n 0, 1) := by decide +kernel
theorem kM_read_20 : decode mM_read.2.1 20 = .ok (.aload_n 0, 1) := by decide +kernel
theorem kM_read_21 : decode mM_read.2.1 21 = .ok (.aload_n 0, 1) := by decide +kernel
theorem kM_read_22 : decode mM_read.2.1 22 = .ok (.iload_n 1, 1) := by decide +kernel
theorem kM_read_23 : decode mM_read.2.1 23 = .ok (.invokevirtual 49, 3) := by decide +kernel
theorem kM_read_26 : decode mM_read.2.1 26 = .ok (.iload_n 2, 1) := by decide +kernel
theorem kM_read_27 : decode mM_read.2.1 27 = .ok (.invokevirtual 91, 3) := by decide +kernel
theorem kM_read_30 : decode mM_read.2.1 30 = .ok (.ifCond .eq 7, 3) := by decide +kernel
theorem kM_read_33 : decode mM_read.2.1 33 = .ok (.iconst 0, 1) := by decide +kernel
theorem kM_read_34 : decode mM_read.2.1 34 = .ok (.goto 4, 3) := by decide +kernel
theorem kM_read_37 : decode mM_read.2.1 37 = .ok (.iconst 3, 1) := by decide +kernel
theorem kM_read_38 : decode mM_read.2.1 38 = .ok (.putfield 45, 3) := by decide +kernel
theorem kM_read_41 : decode mM_read.2.1 41 = .ok (.aload_n 0, 1) := by decide +kernel
theorem kM_read_42 : decode mM_read.2.1 42 = .ok (.getfield 45, 3) := by decide +kernel
theorem kM_read_45 : decode mM_read.2.1 45 = .ok (.ifCond .ne 10, 3) := by decide +kernel
theorem kM_read_48 : decode mM_read.2.1 48 = .ok (.aload_n 0, 1) := by decide +kernel
theorem kM_read_49 : decode mM_read.2.1 49 = .ok (.getfield 84, 3) := by decide +kernel
theorem kM_read_52 : decode mM_read.2.1 52 = .ok (.goto 4, 3) := by decide +kernel
theorem kM_read_55 : decode mM_read.2.1 55 = .ok (.lconst 0, 1) := by decide +kernel
theorem kM_read_56 : decode mM_read.2.1 56 = .ok (.lreturn, 1) := by decide +kernel
theorem kM_next_0 : decode mM_next.2.1 0 = .ok (.aload_n 0, 1) := by decide +kernel
theorem kM_next_1 : decode mM_next.2.1 1 = .ok (.aload_n 0, 1) := by decide +kernel
theorem kM_next_2 : decode mM_next.2.1 2 = .ok (.iload_n 1, 1) := by decide +kernel
theorem kM_next_3 : decode mM_next.2.1 3 = .ok (.iload_n 2, 1) := by decide +kernel
theorem kM_next_4 : decode mM_next.2.1 4 = .ok (.invokevirtual 88, 3) := by decide +kernel
theorem kM_next_7 : decode mM_next.2.1 7 = .ok (.putfield 45, 3) := by decide +kernel
theorem kM_next_10 : decode mM_next.2.1 10 = .ok (.aload_n 0, 1) := by decide +kernel
theorem kM_next_11 : decode mM_next.2.1 11 = .ok (.getfield 45, 3) := by decide +kernel
theorem kM_next_14 : decode mM_next.2.1 14 = .ok (.ifCond .eq 5, 3) := by decide +kernel
theorem kM_next_17 : decode mM_next.2.1 17 = .ok (.iconst 0, 1) := by decide +kernel
theorem kM_next_18 : decode mM_next.2.1 18 = .ok (.ireturn, 1) := by decide +kernel
theorem kM_next_19 : decode mM_next.2.1 19 = .ok (.iload_n 2, 1) := by decide +kernel
theorem kM_next_20 : decode mM_next.2.1 20 = .ok (.istore_n 3, 1) := by decide +kernel
theorem kM_next_21 : decode mM_next.2.1 21 = .ok (.iload_n 3, 1) := by decide +kernel
theorem kM_next_22 : decode mM_next.2.1 22 = .ok (.bipush 16, 2) := by decide +kernel
theorem kM_next_24 : decode mM_next.2.1 24 = .ok (.if_icmp .ge 24, 3) := by decide +kernel
theorem kM_next_27 : decode mM_next.2.1 27 = .ok (.aload_n 0, 1) := by decide +kernel
theorem kM_next_28 : decode mM_next.2.1 28 = .ok (.aload_n 0, 1) := by decide +kernel
theorem kM_next_29 : decode mM_next.2.1 29 = .ok (.iload_n 1, 1) := by decide +kernel
theorem kM_next_30 : decode mM_next.2.1 30 = .ok (.invokevirtual 49, 3) := by decide +kernel
theorem kM_next_33 : decode mM_next.2.1 33 = .ok (.iload_n 3, 1) := by decide +kernel
theorem kM_next_34 : decode mM_next.2.1 34 = .ok (.invokevirtual 91, 3) := by decide +kernel
theorem kM_next_37 : decode mM_next.2.1 37 = .ok (.ifCond .eq 5, 3) := by decide +kernel
theorem kM_next_40 : decode mM_next.2.1 40 = .ok (.iload_n 3, 1) := by decide +kernel
theorem kM_next_41 : decode mM_next.2.1 41 = .ok (.ireturn, 1) := by decide +kernel
theorem kM_next_42 : decode mM_next.2.1 42 = .ok (.iinc 3 1, 3) := by decide +kernel
theorem kM_next_45 : decode mM_next.2.1 45 = .ok (.goto (-24), 3) := by decide +kernel
theorem kM_next_48 : decode mM_next.2.1 48 = .ok (.iconst (-1), 1) := by decide +kernel
theorem kM_next_49 : decode mM_next.2.1 49 = .ok (.ireturn, 1) := by decide +kernel
theorem kM_add_0 : decode mM_add.2.1 0 = .ok (.bipush 12, 2) := by decide +kernel
theorem kM_add_2 : decode mM_add.2.1 2 = .ok (.iload_n 1, 1) := by decide +kernel
theorem kM_add_3 : decode mM_add.2.1 3 = .ok (.imul, 1) := by decide +kernel
theorem kM_add_4 : decode mM_add.2.1 4 = .ok (.aload_n 0, 1) := by decide +kernel
theorem kM_add_5 : decode mM_add.2.1 5 = .ok (.getfield 33, 3) := by decide +kernel
theorem kM_add_8 : decode mM_add.2.1 8 = .ok (.iload_n 1, 1) := by decide +kernel
theorem kM_add_9 : decode mM_add.2.1 9 = .ok (.iaload, 1) := by decide +kernel
theorem kM_add_10 : decode mM_add.2.1 10 = .ok (.iadd, 1) := by decide +kernel
theorem kM_add_11 : decode mM_add.2.1 11 = .ok (.istore 6, 2) := by decide +kernel
theorem kM_add_13 : decode mM_add.2.1 13 = .ok (.aload_n 0, 1) := by decide +kernel
theorem kM_add_14 : decode mM_add.2.1 14 = .ok (.getfield 36, 3) := by decide +kernel
theorem kM_add_17 : decode mM_add.2.1 17 = .ok (.iload 6, 2) := by decide +kernel
theorem kM_add_19 : decode mM_add.2.1 19 = .ok (.iload_n 2, 1) := by decide +kernel
theorem kM_add_20 : decode mM_add.2.1 20 = .ok (.iastore, 1) := by decide +kernel
theorem kM_add_21 : decode mM_add.2.1 21 = .ok (.aload_n 0, 1) := by decide +kernel
theorem kM_add_22 : decode mM_add.2.1 22 = .ok (.getfield 39, 3) := by decide +kernel
theorem kM_add_25 : decode mM_add.2.1 25 = .ok (.iload 6, 2) := by decide +kernel
theorem kM_add_27 : decode mM_add.2.1 27 = .ok (.lload_n 3, 1) := by decide +kernel
theorem kM_add_28 : decode mM_add.2.1 28 = .ok (.lastore, 1) := by decide +kernel
theorem kM_add_29 : decode mM_add.2.1 29 = .ok (.aload_n 0, 1) := by decide +kernel
theorem kM_add_30 : decode mM_add.2.1 30 = .ok (.getfield 42, 3) := by decide +kernel
theorem kM_add_33 : decode mM_add.2.1 33 = .ok (.iload 6, 2) := by decide +kernel
theorem kM_add_35 : decode mM_add.2.1 35 = .ok (.iload 5, 2) := by decide +kernel
theorem kM_add_37 : decode mM_add.2.1 37 = .ok (.bastore, 1) := by decide +kernel
theorem kM_add_38 : decode mM_add.2.1 38 = .ok (.aload_n 0, 1) := by decide +kernel
theorem kM_add_39 : decode mM_add.2.1 39 = .ok (.getfield 33, 3) := by decide +kernel
theorem kM_add_42 : decode mM_add.2.1 42 = .ok (.iload_n 1, 1) := by decide +kernel
theorem kM_add_43 : decode mM_add.2.1 43 = .ok (.dup2, 1) := by decide +kernel
theorem kM_add_44 : decode mM_add.2.1 44 = .ok (.iaload, 1) := by decide +kernel
theorem kM_add_45 : decode mM_add.2.1 45 = .ok (.iconst 1, 1) := by decide +kernel
theorem kM_add_46 : decode mM_add.2.1 46 = .ok (.iadd, 1) := by decide +kernel
theorem kM_add_47 : decode mM_add.2.1 47 = .ok (.iastore, 1) := by decide +kernel
theorem kM_add_48 : decode mM_add.2.1 48 = .ok (.return_, 1) := by decide +kernel
theorem kM_write_0 : decode mM_write.2.1 0 = .ok (.aload_n 0, 1) := by decide +kernel
theorem kM_write_1 : decode mM_write.2.1 1 = .ok (.aload_n 0, 1) := by decide +kernel
theorem kM_write_2 : decode mM_write.2.1 2 = .ok (.iload_n 1, 1) := by decide +kernel
theorem kM_write_3 : decode mM_write.2.1 3 = .ok (.iload_n 2, 1) := by decide +kernel
theorem kM_write_4 : decode mM_write.2.1 4 = .ok (.invokevirtual 88, 3) := by decide +kernel
theorem kM_write_7 : decode mM_write.2.1 7 = .ok (.putfield 45, 3) := by decide +kernel
theorem kM_write_10 : decode mM_write.2.1 10 = .ok (.aload_n 0, 1) := by decide +kernel
theorem kM_write_11 : decode mM_write.2.1 11 = .ok (.getfield 45, 3) := by decide +kernel
theorem kM_write_14 : decode mM_write.2.1 14 = .ok (.ifCond .eq 4, 3) := by decide +kernel
theorem kM_write_17 : decode mM_write.2.1 17 = .ok (.return_, 1) := by decide +kernel
theorem kM_write_18 : decode mM_write.2.1 18 = .ok (.aload_n 0, 1) := by decide +kernel
theorem kM_write_19 : decode mM_write.2.1 19 = .ok (.aload_n 0, 1) := by decide +kernel
theorem kM_write_20 : decode mM_write.2.1 20 = .ok (.getfield 33, 3) := by decide +kernel
theorem kM_write_23 : decode mM_write.2.1 23 = .ok (.aload_n 0, 1) := by decide +kernel
theorem kM_write_24 : decode mM_write.2.1 24 = .ok (.iload_n 1, 1) := by decide +kernel
theorem kM_write_25 : decode mM_write.2.1 25 = .ok (.invokevirtual 49, 3) := by decide +kernel
theorem kM_write_28 : decode mM_write.2.1 28 = .ok (.iaload, 1) := by decide +kernel
theorem kM_write_29 : decode mM_write.2.1 29 = .ok (.bipush 12, 2) := by decide +kernel
theorem kM_write_31 : decode mM_write.2.1 31 = .ok (.if_icmp .ne 7, 3) := by decide +kernel
theorem kM_write_34 : decode mM_write.2.1 34 = .ok (.iconst 3, 1) := by decide +kernel
theorem kM_write_35 : decode mM_write.2.1 35 = .ok (.goto 4, 3) := by decide +kernel
theorem kM_write_38 : decode mM_write.2.1 38 = .ok (.iconst 0, 1) := by decide +kernel
theorem kM_write_39 : decode mM_write.2.1 39 = .ok (.putfield 45, 3) := by decide +kernel
theorem kM_write_42 : decode mM_write.2.1 42 = .ok (.aload_n 0, 1) := by decide +kernel
theorem kM_write_43 : decode mM_write.2.1 43 = .ok (.getfield 45, 3) := by decide +kernel
theorem kM_write_46 : decode mM_write.2.1 46 = .ok (.ifCond .ne 15, 3) := by decide +kernel
theorem kM_write_49 : decode mM_write.2.1 49 = .ok (.aload_n 0, 1) := by decide +kernel
theorem kM_write_50 : decode mM_write.2.1 50 = .ok (.aload_n 0, 1) := by decide +kernel
theorem kM_write_51 : decode mM_write.2.1 51 = .ok (.iload_n 1, 1) := by decide +kernel
theorem kM_write_52 : decode mM_write.2.1 52 = .ok (.invokevirtual 49, 3) := by decide +kernel
theorem kM_write_55 : decode mM_write.2.1 55 = .ok (.iload_n 2, 1) := by decide +kernel
theorem kM_write_56 : decode mM_write.2.1 56 = .ok (.lload_n 3, 1) := by decide +kernel
theorem kM_write_57 : decode mM_write.2.1 57 = .ok (.iconst 0, 1) := by decide +kernel
theorem kM_write_58 : decode mM_write.2.1 58 = .ok (.invokevirtual 95, 3) := by decide +kernel
theorem kM_write_61 : decode mM_write.2.1 61 = .ok (.return_, 1) := by decide +kernel
theorem kM_erase_0 : decode mM_erase.2.1 0 = .ok (.aload_n 0, 1) := by decide +kernel
theorem kM_erase_1 : decode mM_erase.2.1 1 = .ok (.aload_n 0, 1) := by decide +kernel
theorem kM_erase_2 : decode mM_erase.2.1 2 = .ok (.iload_n 1, 1) := by decide +kernel
theorem kM_erase_3 : decode mM_erase.2.1 3 = .ok (.iload_n 2, 1) := by decide +kernel
theorem kM_erase_4 : decode mM_erase.2.1 4 = .ok (.invokevirtual 88, 3) := by decide +kernel
theorem kM_erase_7 : decode mM_erase.2.1 7 = .ok (.putfield 45, 3) := by decide +kernel
theorem kM_erase_10 : decode mM_erase.2.1 10 = .ok (.aload_n 0, 1) := by decide +kernel
theorem kM_erase_11 : decode mM_erase.2.1 11 = .ok (.getfield 45, 3) := by decide +kernel
theorem kM_erase_14 : decode mM_erase.2.1 14 = .ok (.ifCond .eq 4, 3) := by decide +kernel
theorem kM_erase_17 : decode mM_erase.2.1 17 = .ok (.return_, 1) := by decide +kernel
theorem kM_erase_18 : decode mM_erase.2.1 18 = .ok (.aload_n 0, 1) := by decide +kernel
theorem kM_erase_19 : decode mM_erase.2.1 19 = .ok (.aload_n 0, 1) := by decide +kernel
theorem kM_erase_20 : decode mM_erase.2.1 20 = .ok (.aload_n 0, 1) := by decide +kernel
theorem kM_erase_21 : decode mM_erase.2.1 21 = .ok (.iload_n 1, 1) := by decide +kernel
theorem kM_erase_22 : decode mM_erase.2.1 22 = .ok (.invokevirtual 49, 3) := by decide +kernel
theorem kM_erase_25 : decode mM_erase.2.1 25 = .ok (.iload_n 2, 1) := by decide +kernel
theorem kM_erase_26 : decode mM_erase.2.1 26 = .ok (.invokevirtual 91, 3) := by decide +kernel
theorem kM_erase_29 : decode mM_erase.2.1 29 = .ok (.ifCond .ne 7, 3) := by decide +kernel
theorem kM_erase_32 : decode mM_erase.2.1 32 = .ok (.iconst 3, 1) := by decide +kernel
theorem kM_erase_33 : decode mM_erase.2.1 33 = .ok (.goto 23, 3) := by decide +kernel
theorem kM_erase_36 : decode mM_erase.2.1 36 = .ok (.aload_n 0, 1) := by decide +kernel
theorem kM_erase_37 : decode mM_erase.2.1 37 = .ok (.getfield 33, 3) := by decide +kernel
theorem kM_erase_40 : decode mM_erase.2.1 40 = .ok (.aload_n 0, 1) := by decide +kernel
theorem kM_erase_41 : decode mM_erase.2.1 41 = .ok (.iload_n 1, 1) := by decide +kernel
theorem kM_erase_42 : decode mM_erase.2.1 42 = .ok (.invokevirtual 49, 3) := by decide +kernel
theorem kM_erase_45 : decode mM_erase.2.1 45 = .ok (.iaload, 1) := by decide +kernel
theorem kM_erase_46 : decode mM_erase.2.1 46 = .ok (.bipush 12, 2) := by decide +kernel
theorem kM_erase_48 : decode mM_erase.2.1 48 = .ok (.if_icmp .ne 7, 3) := by decide +kernel
theorem kM_erase_51 : decode mM_erase.2.1 51 = .ok (.iconst 4, 1) := by decide +kernel
theorem kM_erase_52 : decode mM_erase.2.1 52 = .ok (.goto 4, 3) := by decide +kernel
theorem kM_erase_55 : decode mM_erase.2.1 55 = .ok (.iconst 0, 1) := by decide +kernel
theorem kM_erase_56 : decode mM_erase.2.1 56 = .ok (.putfield 45, 3) := by decide +kernel
theorem kM_erase_59 : decode mM_erase.2.1 59 = .ok (.aload_n 0, 1) := by decide +kernel
theorem kM_erase_60 : decode mM_erase.2.1 60 = .ok (.getfield 45, 3) := by decide +kernel
theorem kM_erase_63 : decode mM_erase.2.1 63 = .ok (.ifCond .ne 15, 3) := by decide +kernel
theorem kM_erase_66 : decode mM_erase.2.1 66 = .ok (.aload_n 0, 1) := by decide +kernel
theorem kM_erase_67 : decode mM_erase.2.1 67 = .ok (.aload_n 0, 1) := by decide +kernel
theorem kM_erase_68 : decode mM_erase.2.1 68 = .ok (.iload_n 1, 1) := by decide +kernel
theorem kM_erase_69 : decode mM_erase.2.1 69 = .ok (.invokevirtual 49, 3) := by decide +kernel
theorem kM_erase_72 : decode mM_erase.2.1 72 = .ok (.iload_n 2, 1) := by decide +kernel
theorem kM_erase_73 : decode mM_erase.2.1 73 = .ok (.lconst 0, 1) := by decide +kernel
theorem kM_erase_74 : decode mM_erase.2.1 74 = .ok (.iconst 1, 1) := by decide +kernel
theorem kM_erase_75 : decode mM_erase.2.1 75 = .ok (.invokevirtual 95, 3) := by decide +kernel
theorem kM_erase_78 : decode mM_erase.2.1 78 = .ok (.return_, 1) := by decide +kernel
theorem kM_mark_0 : decode mM_mark.2.1 0 = .ok (.aload_n 0, 1) := by decide +kernel
theorem kM_mark_1 : decode mM_mark.2.1 1 = .ok (.aload_n 0, 1) := by decide +kernel
theorem kM_mark_2 : decode mM_mark.2.1 2 = .ok (.iload_n 1, 1) := by decide +kernel
theorem kM_mark_3 : decode mM_mark.2.1 3 = .ok (.invokevirtual 49, 3) := by decide +kernel
theorem kM_mark_6 : decode mM_mark.2.1 6 = .ok (.ifCond .ge 7, 3) := by decide +kernel
theorem kM_mark_9 : decode mM_mark.2.1 9 = .ok (.iconst 1, 1) := by decide +kernel
theorem kM_mark_10 : decode mM_mark.2.1 10 = .ok (.goto 4, 3) := by decide +kernel
theorem kM_mark_13 : decode mM_mark.2.1 13 = .ok (.iconst 0, 1) := by decide +kernel
theorem kM_mark_14 : decode mM_mark.2.1 14 = .ok (.putfield 45, 3) := by decide +kernel
theorem kM_mark_17 : decode mM_mark.2.1 17 = .ok (.aload_n 0, 1) := by decide +kernel
theorem kM_mark_18 : decode mM_mark.2.1 18 = .ok (.getfield 45, 3) := by decide +kernel
theorem kM_mark_21 : decode mM_mark.2.1 21 = .ok (.ifCond .ne 16, 3) := by decide +kernel
theorem kM_mark_24 : decode mM_mark.2.1 24 = .ok (.aload_n 0, 1) := by decide +kernel
theorem kM_mark_25 : decode mM_mark.2.1 25 = .ok (.getfield 33, 3) := by decide +kernel
theorem kM_mark_28 : decode mM_mark.2.1 28 = .ok (.aload_n 0, 1) := by decide +kernel
theorem kM_mark_29 : decode mM_mark.2.1 29 = .ok (.iload_n 1, 1) := by decide +kernel
theorem kM_mark_30 : decode mM_mark.2.1 30 = .ok (.invokevirtual 49, 3) := by decide +kernel
theorem kM_mark_33 : decode mM_mark.2.1 33 = .ok (.iaload, 1) := by decide +kernel
theorem kM_mark_34 : decode mM_mark.2.1 34 = .ok (.goto 4, 3) := by decide +kernel
theorem kM_mark_37 : decode mM_mark.2.1 37 = .ok (.iconst 0, 1) := by decide +kernel
theorem kM_mark_38 : decode mM_mark.2.1 38 = .ok (.ireturn, 1) := by decide +kernel
theorem kM_rollback_0 : decode mM_rollback.2.1 0 = .ok (.aload_n 0, 1) := by decide +kernel
theorem kM_rollback_1 : decode mM_rollback.2.1 1 = .ok (.iload_n 1, 1) := by decide +kernel
theorem kM_rollback_2 : decode mM_rollback.2.1 2 = .ok (.invokevirtual 49, 3) := by decide +kernel
theorem kM_rollback_5 : decode mM_rollback.2.1 5 = .ok (.istore_n 3, 1) := by decide +kernel
theorem kM_rollback_6 : decode mM_rollback.2.1 6 = .ok (.aload_n 0, 1) := by decide +kernel
theorem kM_rollback_7 : decode mM_rollback.2.1 7 = .ok (.iload_n 3, 1) := by decide +kernel
theorem kM_rollback_8 : decode mM_rollback.2.1 8 = .ok (.ifCond .ge 7, 3) := by decide +kernel
theorem kM_rollback_11 : decode mM_rollback.2.1 11 = .ok (.iconst 1, 1) := by decide +kernel
theorem kM_rollback_12 : decode mM_rollback.2.1 12 = .ok (.goto 4, 3) := by decide +kernel
theorem kM_rollback_15 : decode mM_rollback.2.1 15 = .ok (.iconst 0, 1) := by decide +kernel
theorem kM_rollback_16 : decode mM_rollback.2.1 16 = .ok (.putfield 45, 3) := by decide +kernel
theorem kM_rollback_19 : decode mM_rollback.2.1 19 = .ok (.aload_n 0, 1) := by decide +kernel
theorem kM_rollback_20 : decode mM_rollback.2.1 20 = .ok (.getfield 45, 3) := by decide +kernel
theorem kM_rollback_23 : decode mM_rollback.2.1 23 = .ok (.ifCond .eq 4, 3) := by decide +kernel
theorem kM_rollback_26 : decode mM_rollback.2.1 26 = .ok (.return_, 1) := by decide +kernel
theorem kM_rollback_27 : decode mM_rollback.2.1 27 = .ok (.aload_n 0, 1) := by decide +kernel
theorem kM_rollback_28 : decode mM_rollback.2.1 28 = .ok (.iload_n 2, 1) := by decide +kernel
theorem kM_rollback_29 : decode mM_rollback.2.1 29 = .ok (.ifCond .lt 13, 3) := by decide +kernel
theorem kM_rollback_32 : decode mM_rollback.2.1 32 = .ok (.iload_n 2, 1) := by decide +kernel
theorem kM_rollback_33 : decode mM_rollback.2.1 33 = .ok (.aload_n 0, 1) := by decide +kernel
theorem kM_rollback_34 : decode mM_rollback.2.1 34 = .ok (.getfield 33, 3) := by decide +kernel
theorem kM_rollback_37 : decode mM_rollback.2.1 37 = .ok (.iload_n 3, 1) := by decide +kernel
theorem kM_rollback_38 : decode mM_rollback.2.1 38 = .ok (.iaload, 1) := by decide +kernel
theorem kM_rollback_39 : decode mM_rollback.2.1 39 = .ok (.if_icmp .le 7, 3) := by decide +kernel
theorem kM_rollback_42 : decode mM_rollback.2.1 42 = .ok (.iconst 2, 1) := by decide +kernel
theorem kM_rollback_43 : decode mM_rollback.2.1 43 = .ok (.goto 4, 3) := by decide +kernel
theorem kM_rollback_46 : decode mM_rollback.2.1 46 = .ok (.iconst 0, 1) := by decide +kernel
theorem kM_rollback_47 : decode mM_rollback.2.1 47 = .ok (.putfield 45, 3) := by decide +kernel
theorem kM_rollback_50 : decode mM_rollback.2.1 50 = .ok (.aload_n 0, 1) := by decide +kernel
theorem kM_rollback_51 : decode mM_rollback.2.1 51 = .ok (.getfield 33, 3) := by decide +kernel
theorem kM_rollback_54 : decode mM_rollback.2.1 54 = .ok (.iload_n 3, 1) := by decide +kernel
theorem kM_rollback_55 : decode mM_rollback.2.1 55 = .ok (.aload_n 0, 1) := by decide +kernel
theorem kM_rollback_56 : decode mM_rollback.2.1 56 = .ok (.getfield 45, 3) := by decide +kernel
theorem kM_rollback_59 : decode mM_rollback.2.1 59 = .ok (.ifCond .ne 7, 3) := by decide +kernel
theorem kM_rollback_62 : decode mM_rollback.2.1 62 = .ok (.iload_n 2, 1) := by decide +kernel
theorem kM_rollback_63 : decode mM_rollback.2.1 63 = .ok (.goto 9, 3) := by decide +kernel
theorem kM_rollback_66 : decode mM_rollback.2.1 66 = .ok (.aload_n 0, 1) := by decide +kernel
theorem kM_rollback_67 : decode mM_rollback.2.1 67 = .ok (.getfield 33, 3) := by decide +kernel
theorem kM_rollback_70 : decode mM_rollback.2.1 70 = .ok (.iload_n 3, 1) := by decide +kernel
theorem kM_rollback_71 : decode mM_rollback.2.1 71 = .ok (.iaload, 1) := by decide +kernel
theorem kM_rollback_72 : decode mM_rollback.2.1 72 = .ok (.iastore, 1) := by decide +kernel
theorem kM_rollback_73 : decode mM_rollback.2.1 73 = .ok (.return_, 1) := by decide +kernel
theorem kM_latest_0 : decode mM_latest.2.1 0 = .ok (.iconst 1, 1) := by decide +kernel
theorem kM_latest_1 : decode mM_latest.2.1 1 = .ok (.istore_n 3, 1) := by decide +kernel
theorem kM_latest_2 : decode mM_latest.2.1 2 = .ok (.iload_n 2, 1) := by decide +kernel
theorem kM_latest_3 : decode mM_latest.2.1 3 = .ok (.iconst 1, 1) := by decide +kernel
theorem kM_latest_4 : decode mM_latest.2.1 4 = .ok (.iadd, 1) := by decide +kernel
theorem kM_latest_5 : decode mM_latest.2.1 5 = .ok (.istore 4, 2) := by decide +kernel
theorem kM_latest_7 : decode mM_latest.2.1 7 = .ok (.iload 4, 2) := by decide +kernel
theorem kM_latest_9 : decode mM_latest.2.1 9 = .ok (.bipush 12, 2) := by decide +kernel
theorem kM_latest_11 : decode mM_latest.2.1 11 = .ok (.iload_n 1, 1) := by decide +kernel
theorem kM_latest_12 : decode mM_latest.2.1 12 = .ok (.imul, 1) := by decide +kernel
theorem kM_latest_13 : decode mM_latest.2.1 13 = .ok (.aload_n 0, 1) := by decide +kernel
theorem kM_latest_14 : decode mM_latest.2.1 14 = .ok (.getfield 33, 3) := by decide +kernel
theorem kM_latest_17 : decode mM_latest.2.1 17 = .ok (.iload_n 1, 1) := by decide +kernel
theorem kM_latest_18 : decode mM_latest.2.1 18 = .ok (.iaload, 1) := by decide +kernel
theorem kM_latest_19 : decode mM_latest.2.1 19 = .ok (.iadd, 1) := by decide +kernel
theorem kM_latest_20 : decode mM_latest.2.1 20 = .ok (.if_icmp .ge 35, 3) := by decide +kernel
theorem kM_latest_23 : decode mM_latest.2.1 23 = .ok (.iload_n 3, 1) := by decide +kernel
theorem kM_latest_24 : decode mM_latest.2.1 24 = .ok (.ifCond .eq 23, 3) := by decide +kernel
theorem kM_latest_27 : decode mM_latest.2.1 27 = .ok (.aload_n 0, 1) := by decide +kernel
theorem kM_latest_28 : decode mM_latest.2.1 28 = .ok (.getfield 36, 3) := by decide +kernel
theorem kM_latest_31 : decode mM_latest.2.1 31 = .ok (.iload 4, 2) := by decide +kernel
theorem kM_latest_33 : decode mM_latest.2.1 33 = .ok (.iaload, 1) := by decide +kernel
theorem kM_latest_34 : decode mM_latest.2.1 34 = .ok (.aload_n 0, 1) := by decide +kernel
theorem kM_latest_35 : decode mM_latest.2.1 35 = .ok (.getfield 36, 3) := by decide +kernel
theorem kM_latest_38 : decode mM_latest.2.1 38 = .ok (.iload_n 2, 1) := by decide +kernel
theorem kM_latest_39 : decode mM_latest.2.1 39 = .ok (.iaload, 1) := by decide +kernel
theorem kM_latest_40 : decode mM_latest.2.1 40 = .ok (.if_icmp .eq 7, 3) := by decide +kernel
theorem kM_latest_43 : decode mM_latest.2.1 43 = .ok (.iconst 1, 1) := by decide +kernel
theorem kM_latest_44 : decode mM_latest.2.1 44 = .ok (.goto 4, 3) := by decide +kernel
theorem kM_latest_47 : decode mM_latest.2.1 47 = .ok (.iconst 0, 1) := by decide +kernel
theorem kM_latest_48 : decode mM_latest.2.1 48 = .ok (.istore_n 3, 1) := by decide +kernel
theorem kM_latest_49 : decode mM_latest.2.1 49 = .ok (.iinc 4 1, 3) := by decide +kernel
theorem kM_latest_52 : decode mM_latest.2.1 52 = .ok (.goto (-45), 3) := by decide +kernel
theorem kM_latest_55 : decode mM_latest.2.1 55 = .ok (.iload_n 3, 1) := by decide +kernel
theorem kM_latest_56 : decode mM_latest.2.1 56 = .ok (.ireturn, 1) := by decide +kernel
theorem kM_conflicts_0 : decode mM_conflicts.2.1 0 = .ok (.iconst 0, 1) := by decide +kernel
theorem kM_conflicts_1 : decode mM_conflicts.2.1 1 = .ok (.istore_n 2, 1) := by decide +kernel
theorem kM_conflicts_2 : decode mM_conflicts.2.1 2 = .ok (.bipush 12, 2) := by decide +kernel
theorem kM_conflicts_4 : decode mM_conflicts.2.1 4 = .ok (.iload_n 1, 1) := by decide +kernel
theorem kM_conflicts_5 : decode mM_conflicts.2.1 5 = .ok (.imul, 1) := by decide +kernel
theorem kM_conflicts_6 : decode mM_conflicts.2.1 6 = .ok (.istore_n 3, 1) := by decide +kernel
theorem kM_conflicts_7 : decode mM_conflicts.2.1 7 = .ok (.iload_n 3, 1) := by decide +kernel
theorem kM_conflicts_8 : decode mM_conflicts.2.1 8 = .ok (.bipush 12, 2) := by decide +kernel
theorem kM_conflicts_10 : decode mM_conflicts.2.1 10 = .ok (.iload_n 1, 1) := by decide +kernel
theorem kM_conflicts_11 : decode mM_conflicts.2.1 11 = .ok (.imul, 1) := by decide +kernel
theorem kM_conflicts_12 : decode mM_conflicts.2.1 12 = .ok (.aload_n 0, 1) := by decide +kernel
theorem kM_conflicts_13 : decode mM_conflicts.2.1 13 = .ok (.getfield 33, 3) := by decide +kernel
theorem kM_conflicts_16 : decode mM_conflicts.2.1 16 = .ok (.iload_n 1, 1) := by decide +kernel
theorem kM_conflicts_17 : decode mM_conflicts.2.1 17 = .ok (.iaload, 1) := by decide +kernel
theorem kM_conflicts_18 : decode mM_conflicts.2.1 18 = .ok (.iadd, 1) := by decide +kernel
theorem kM_conflicts_19 : decode mM_conflicts.2.1 19 = .ok (.if_icmp .ge 69, 3) := by decide +kernel
theorem kM_conflicts_22 : decode mM_conflicts.2.1 22 = .ok (.iconst 0, 1) := by decide +kernel
theorem kM_conflicts_23 : decode mM_conflicts.2.1 23 = .ok (.istore 4, 2) := by decide +kernel
theorem kM_conflicts_25 : decode mM_conflicts.2.1 25 = .ok (.iload 4, 2) := by decide +kernel
theorem kM_conflicts_27 : decode mM_conflicts.2.1 27 = .ok (.aload_n 0, 1) := by decide +kernel
theorem kM_conflicts_28 : decode mM_conflicts.2.1 28 = .ok (.getfield 73, 3) := by decide +kernel
theorem kM_conflicts_31 : decode mM_conflicts.2.1 31 = .ok (.if_icmp .ge 51, 3) := by decide +kernel
theorem kM_conflicts_34 : decode mM_conflicts.2.1 34 = .ok (.iload_n 2, 1) := by decide +kernel
theorem kM_conflicts_35 : decode mM_conflicts.2.1 35 = .ok (.ifCond .ne 35, 3) := by decide +kernel
theorem kM_conflicts_38 : decode mM_conflicts.2.1 38 = .ok (.aload_n 0, 1) := by decide +kernel
theorem kM_conflicts_39 : decode mM_conflicts.2.1 39 = .ok (.getfield 7, 3) := by decide +kernel
theorem kM_conflicts_42 : decode mM_conflicts.2.1 42 = .ok (.iload 4, 2) := by decide +kernel
theorem kM_conflicts_44 : decode mM_conflicts.2.1 44 = .ok (.iaload, 1) := by decide +kernel
theorem kM_conflicts_45 : decode mM_conflicts.2.1 45 = .ok (.aload_n 0, 1) := by decide +kernel
theorem kM_conflicts_46 : decode mM_conflicts.2.1 46 = .ok (.getfield 36, 3) := by decide +kernel
theorem kM_conflicts_49 : decode mM_conflicts.2.1 49 = .ok (.iload_n 3, 1) := by decide +kernel
theorem kM_conflicts_50 : decode mM_conflicts.2.1 50 = .ok (.iaload, 1) := by decide +kernel
theorem kM_conflicts_51 : decode mM_conflicts.2.1 51 = .ok (.if_icmp .ne 23, 3) := by decide +kernel
theorem kM_conflicts_54 : decode mM_conflicts.2.1 54 = .ok (.aload_n 0, 1) := by decide +kernel
theorem kM_conflicts_55 : decode mM_conflicts.2.1 55 = .ok (.getfield 13, 3) := by decide +kernel
theorem kM_conflicts_58 : decode mM_conflicts.2.1 58 = .ok (.iload 4, 2) := by decide +kernel
theorem kM_conflicts_60 : decode mM_conflicts.2.1 60 = .ok (.iaload, 1) := by decide +kernel
theorem kM_conflicts_61 : decode mM_conflicts.2.1 61 = .ok (.aload_n 0, 1) := by decide +kernel
theorem kM_conflicts_62 : decode mM_conflicts.2.1 62 = .ok (.getfield 30, 3) := by decide +kernel
theorem kM_conflicts_65 : decode mM_conflicts.2.1 65 = .ok (.iload_n 1, 1) := by decide +kernel
theorem kM_conflicts_66 : decode mM_conflicts.2.1 66 = .ok (.iaload, 1) := by decide +kernel
theorem kM_conflicts_67 : decode mM_conflicts.2.1 67 = .ok (.if_icmp .le 7, 3) := by decide +kernel
theorem kM_conflicts_70 : decode mM_conflicts.2.1 70 = .ok (.iconst 1, 1) := by decide +kernel
theorem kM_conflicts_71 : decode mM_conflicts.2.1 71 = .ok (.goto 4, 3) := by decide +kernel
theorem kM_conflicts_74 : decode mM_conflicts.2.1 74 = .ok (.iconst 0, 1) := by decide +kernel
theorem kM_conflicts_75 : decode mM_conflicts.2.1 75 = .ok (.istore_n 2, 1) := by decide +kernel
theorem kM_conflicts_76 : decode mM_conflicts.2.1 76 = .ok (.iinc 4 1, 3) := by decide +kernel
theorem kM_conflicts_79 : decode mM_conflicts.2.1 79 = .ok (.goto (-54), 3) := by decide +kernel
theorem kM_conflicts_82 : decode mM_conflicts.2.1 82 = .ok (.iinc 3 1, 3) := by decide +kernel
theorem kM_conflicts_85 : decode mM_conflicts.2.1 85 = .ok (.goto (-78), 3) := by decide +kernel
theorem kM_conflicts_88 : decode mM_conflicts.2.1 88 = .ok (.iload_n 2, 1) := by decide +kernel
theorem kM_conflicts_89 : decode mM_conflicts.2.1 89 = .ok (.ireturn, 1) := by decide +kernel
