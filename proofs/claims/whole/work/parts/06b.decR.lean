theorem kR_init_0 : decode mR_init.2.1 0 = .ok (.aload_n 0, 1) := by decide +kernel
theorem kR_init_1 : decode mR_init.2.1 1 = .ok (.invokespecial 3, 3) := by decide +kernel
theorem kR_init_4 : decode mR_init.2.1 4 = .ok (.aload_n 0, 1) := by decide +kernel
theorem kR_init_5 : decode mR_init.2.1 5 = .ok (.iconst 0, 1) := by decide +kernel
theorem kR_init_6 : decode mR_init.2.1 6 = .ok (.putfield 9, 3) := by decide +kernel
theorem kR_init_9 : decode mR_init.2.1 9 = .ok (.aload_n 0, 1) := by decide +kernel
theorem kR_init_10 : decode mR_init.2.1 10 = .ok (.iload_n 1, 1) := by decide +kernel
theorem kR_init_11 : decode mR_init.2.1 11 = .ok (.newarray .int, 2) := by decide +kernel
theorem kR_init_13 : decode mR_init.2.1 13 = .ok (.putfield 15, 3) := by decide +kernel
theorem kR_init_16 : decode mR_init.2.1 16 = .ok (.aload_n 0, 1) := by decide +kernel
theorem kR_init_17 : decode mR_init.2.1 17 = .ok (.iload_n 1, 1) := by decide +kernel
theorem kR_init_18 : decode mR_init.2.1 18 = .ok (.newarray .int, 2) := by decide +kernel
theorem kR_init_20 : decode mR_init.2.1 20 = .ok (.putfield 19, 3) := by decide +kernel
theorem kR_init_23 : decode mR_init.2.1 23 = .ok (.aload_n 0, 1) := by decide +kernel
theorem kR_init_24 : decode mR_init.2.1 24 = .ok (.iload_n 1, 1) := by decide +kernel
theorem kR_init_25 : decode mR_init.2.1 25 = .ok (.newarray .long, 2) := by decide +kernel
theorem kR_init_27 : decode mR_init.2.1 27 = .ok (.putfield 22, 3) := by decide +kernel
theorem kR_init_30 : decode mR_init.2.1 30 = .ok (.aload_n 0, 1) := by decide +kernel
theorem kR_init_31 : decode mR_init.2.1 31 = .ok (.iload_n 1, 1) := by decide +kernel
theorem kR_init_32 : decode mR_init.2.1 32 = .ok (.newarray .boolean, 2) := by decide +kernel
theorem kR_init_34 : decode mR_init.2.1 34 = .ok (.putfield 26, 3) := by decide +kernel
theorem kR_init_37 : decode mR_init.2.1 37 = .ok (.return_, 1) := by decide +kernel
theorem kR_append_0 : decode mR_append.2.1 0 = .ok (.aload_n 0, 1) := by decide +kernel
theorem kR_append_1 : decode mR_append.2.1 1 = .ok (.getfield 9, 3) := by decide +kernel
theorem kR_append_4 : decode mR_append.2.1 4 = .ok (.aload_n 0, 1) := by decide +kernel
theorem kR_append_5 : decode mR_append.2.1 5 = .ok (.getfield 15, 3) := by decide +kernel
theorem kR_append_8 : decode mR_append.2.1 8 = .ok (.arraylength, 1) := by decide +kernel
theorem kR_append_9 : decode mR_append.2.1 9 = .ok (.if_icmp .lt 5, 3) := by decide +kernel
theorem kR_append_12 : decode mR_append.2.1 12 = .ok (.iconst 0, 1) := by decide +kernel
theorem kR_append_13 : decode mR_append.2.1 13 = .ok (.ireturn, 1) := by decide +kernel
theorem kR_append_14 : decode mR_append.2.1 14 = .ok (.aload_n 0, 1) := by decide +kernel
theorem kR_append_15 : decode mR_append.2.1 15 = .ok (.getfield 15, 3) := by decide +kernel
theorem kR_append_18 : decode mR_append.2.1 18 = .ok (.aload_n 0, 1) := by decide +kernel
theorem kR_append_19 : decode mR_append.2.1 19 = .ok (.getfield 9, 3) := by decide +kernel
theorem kR_append_22 : decode mR_append.2.1 22 = .ok (.iload_n 1, 1) := by decide +kernel
theorem kR_append_23 : decode mR_append.2.1 23 = .ok (.iastore, 1) := by decide +kernel
theorem kR_append_24 : decode mR_append.2.1 24 = .ok (.aload_n 0, 1) := by decide +kernel
theorem kR_append_25 : decode mR_append.2.1 25 = .ok (.getfield 19, 3) := by decide +kernel
theorem kR_append_28 : decode mR_append.2.1 28 = .ok (.aload_n 0, 1) := by decide +kernel
theorem kR_append_29 : decode mR_append.2.1 29 = .ok (.getfield 9, 3) := by decide +kernel
theorem kR_append_32 : decode mR_append.2.1 32 = .ok (.iload_n 2, 1) := by decide +kernel
theorem kR_append_33 : decode mR_append.2.1 33 = .ok (.iastore, 1) := by decide +kernel
theorem kR_append_34 : decode mR_append.2.1 34 = .ok (.aload_n 0, 1) := by decide +kernel
theorem kR_append_35 : decode mR_append.2.1 35 = .ok (.getfield 22, 3) := by decide +kernel
theorem kR_append_38 : decode mR_append.2.1 38 = .ok (.aload_n 0, 1) := by decide +kernel
theorem kR_append_39 : decode mR_append.2.1 39 = .ok (.getfield 9, 3) := by decide +kernel
theorem kR_append_42 : decode mR_append.2.1 42 = .ok (.lload_n 3, 1) := by decide +kernel
theorem kR_append_43 : decode mR_append.2.1 43 = .ok (.lastore, 1) := by decide +kernel
theorem kR_append_44 : decode mR_append.2.1 44 = .ok (.aload_n 0, 1) := by decide +kernel
theorem kR_append_45 : decode mR_append.2.1 45 = .ok (.getfield 26, 3) := by decide +kernel
theorem kR_append_48 : decode mR_append.2.1 48 = .ok (.aload_n 0, 1) := by decide +kernel
theorem kR_append_49 : decode mR_append.2.1 49 = .ok (.getfield 9, 3) := by decide +kernel
theorem kR_append_52 : decode mR_append.2.1 52 = .ok (.iload 5, 2) := by decide +kernel
theorem kR_append_54 : decode mR_append.2.1 54 = .ok (.bastore, 1) := by decide +kernel
theorem kR_append_55 : decode mR_append.2.1 55 = .ok (.aload_n 0, 1) := by decide +kernel
theorem kR_append_56 : decode mR_append.2.1 56 = .ok (.dup, 1) := by decide +kernel
theorem kR_append_57 : decode mR_append.2.1 57 = .ok (.getfield 9, 3) := by decide +kernel
theorem kR_append_60 : decode mR_append.2.1 60 = .ok (.iconst 1, 1) := by decide +kernel
theorem kR_append_61 : decode mR_append.2.1 61 = .ok (.iadd, 1) := by decide +kernel
theorem kR_append_62 : decode mR_append.2.1 62 = .ok (.putfield 9, 3) := by decide +kernel
theorem kR_append_65 : decode mR_append.2.1 65 = .ok (.iconst 1, 1) := by decide +kernel
theorem kR_append_66 : decode mR_append.2.1 66 = .ok (.ireturn, 1) := by decide +kernel
theorem kR_takeAway_0 : decode mR_takeAway.2.1 0 = .ok (.iload_n 1, 1) := by decide +kernel
theorem kR_takeAway_1 : decode mR_takeAway.2.1 1 = .ok (.iconst 1, 1) := by decide +kernel
theorem kR_takeAway_2 : decode mR_takeAway.2.1 2 = .ok (.iadd, 1) := by decide +kernel
theorem kR_takeAway_3 : decode mR_takeAway.2.1 3 = .ok (.istore_n 2, 1) := by decide +kernel
theorem kR_takeAway_4 : decode mR_takeAway.2.1 4 = .ok (.iload_n 2, 1) := by decide +kernel
theorem kR_takeAway_5 : decode mR_takeAway.2.1 5 = .ok (.aload_n 0, 1) := by decide +kernel
theorem kR_takeAway_6 : decode mR_takeAway.2.1 6 = .ok (.getfield 9, 3) := by decide +kernel
theorem kR_takeAway_9 : decode mR_takeAway.2.1 9 = .ok (.if_icmp .ge 65, 3) := by decide +kernel
theorem kR_takeAway_12 : decode mR_takeAway.2.1 12 = .ok (.aload_n 0, 1) := by decide +kernel
theorem kR_takeAway_13 : decode mR_takeAway.2.1 13 = .ok (.getfield 15, 3) := by decide +kernel
theorem kR_takeAway_16 : decode mR_takeAway.2.1 16 = .ok (.iload_n 2, 1) := by decide +kernel
theorem kR_takeAway_17 : decode mR_takeAway.2.1 17 = .ok (.iconst 1, 1) := by decide +kernel
theorem kR_takeAway_18 : decode mR_takeAway.2.1 18 = .ok (.isub, 1) := by decide +kernel
theorem kR_takeAway_19 : decode mR_takeAway.2.1 19 = .ok (.aload_n 0, 1) := by decide +kernel
theorem kR_takeAway_20 : decode mR_takeAway.2.1 20 = .ok (.getfield 15, 3) := by decide +kernel
theorem kR_takeAway_23 : decode mR_takeAway.2.1 23 = .ok (.iload_n 2, 1) := by decide +kernel
theorem kR_takeAway_24 : decode mR_takeAway.2.1 24 = .ok (.iaload, 1) := by decide +kernel
theorem kR_takeAway_25 : decode mR_takeAway.2.1 25 = .ok (.iastore, 1) := by decide +kernel
theorem kR_takeAway_26 : decode mR_takeAway.2.1 26 = .ok (.aload_n 0, 1) := by decide +kernel
theorem kR_takeAway_27 : decode mR_takeAway.2.1 27 = .ok (.getfield 19, 3) := by decide +kernel
theorem kR_takeAway_30 : decode mR_takeAway.2.1 30 = .ok (.iload_n 2, 1) := by decide +kernel
theorem kR_takeAway_31 : decode mR_takeAway.2.1 31 = .ok (.iconst 1, 1) := by decide +kernel
theorem kR_takeAway_32 : decode mR_takeAway.2.1 32 = .ok (.isub, 1) := by decide +kernel
theorem kR_takeAway_33 : decode mR_takeAway.2.1 33 = .ok (.aload_n 0, 1) := by decide +kernel
theorem kR_takeAway_34 : decode mR_takeAway.2.1 34 = .ok (.getfield 19, 3) := by decide +kernel
theorem kR_takeAway_37 : decode mR_takeAway.2.1 37 = .ok (.iload_n 2, 1) := by decide +kernel
theorem kR_takeAway_38 : decode mR_takeAway.2.1 38 = .ok (.iaload, 1) := by decide +kernel
theorem kR_takeAway_39 : decode mR_takeAway.2.1 39 = .ok (.iastore, 1) := by decide +kernel
theorem kR_takeAway_40 : decode mR_takeAway.2.1 40 = .ok (.aload_n 0, 1) := by decide +kernel
theorem kR_takeAway_41 : decode mR_takeAway.2.1 41 = .ok (.getfield 22, 3) := by decide +kernel
theorem kR_takeAway_44 : decode mR_takeAway.2.1 44 = .ok (.iload_n 2, 1) := by decide +kernel
theorem kR_takeAway_45 : decode mR_takeAway.2.1 45 = .ok (.iconst 1, 1) := by decide +kernel
theorem kR_takeAway_46 : decode mR_takeAway.2.1 46 = .ok (.isub, 1) := by decide +kernel
theorem kR_takeAway_47 : decode mR_takeAway.2.1 47 = .ok (.aload_n 0, 1) := by decide +kernel
theorem kR_takeAway_48 : decode mR_takeAway.2.1 48 = .ok (.getfield 22, 3) := by decide +kernel
theorem kR_takeAway_51 : decode mR_takeAway.2.1 51 = .ok (.iload_n 2, 1) := by decide +kernel
theorem kR_takeAway_52 : decode mR_takeAway.2.1 52 = .ok (.laload, 1) := by decide +kernel
theorem kR_takeAway_53 : decode mR_takeAway.2.1 53 = .ok (.lastore, 1) := by decide +kernel
theorem kR_takeAway_54 : decode mR_takeAway.2.1 54 = .ok (.aload_n 0, 1) := by decide +kernel
theorem kR_takeAway_55 : decode mR_takeAway.2.1 55 = .ok (.getfield 26, 3) := by decide +kernel
theorem kR_takeAway_58 : decode mR_takeAway.2.1 58 = .ok (.iload_n 2, 1) := by decide +kernel
theorem kR_takeAway_59 : decode mR_takeAway.2.1 59 = .ok (.iconst 1, 1) := by decide +kernel
theorem kR_takeAway_60 : decode mR_takeAway.2.1 60 = .ok (.isub, 1) := by decide +kernel
theorem kR_takeAway_61 : decode mR_takeAway.2.1 61 = .ok (.aload_n 0, 1) := by decide +kernel
theorem kR_takeAway_62 : decode mR_takeAway.2.1 62 = .ok (.getfield 26, 3) := by decide +kernel
theorem kR_takeAway_65 : decode mR_takeAway.2.1 65 = .ok (.iload_n 2, 1) := by decide +kernel
theorem kR_takeAway_66 : decode mR_takeAway.2.1 66 = .ok (.baload, 1) := by decide +kernel
theorem kR_takeAway_67 : decode mR_takeAway.2.1 67 = .ok (.bastore, 1) := by decide +kernel
theorem kR_takeAway_68 : decode mR_takeAway.2.1 68 = .ok (.iinc 2 1, 3) := by decide +kernel
theorem kR_takeAway_71 : decode mR_takeAway.2.1 71 = .ok (.goto (-67), 3) := by decide +kernel
theorem kR_takeAway_74 : decode mR_takeAway.2.1 74 = .ok (.aload_n 0, 1) := by decide +kernel
theorem kR_takeAway_75 : decode mR_takeAway.2.1 75 = .ok (.dup, 1) := by decide +kernel
theorem kR_takeAway_76 : decode mR_takeAway.2.1 76 = .ok (.getfield 9, 3) := by decide +kernel
theorem kR_takeAway_79 : decode mR_takeAway.2.1 79 = .ok (.iconst 1, 1) := by decide +kernel
theorem kR_takeAway_80 : decode mR_takeAway.2.1 80 = .ok (.isub, 1) := by decide +kernel
theorem kR_takeAway_81 : decode mR_takeAway.2.1 81 = .ok (.putfield 9, 3) := by decide +kernel
theorem kR_takeAway_84 : decode mR_takeAway.2.1 84 = .ok (.return_, 1) := by decide +kernel
theorem kR_latest_0 : decode mR_latest.2.1 0 = .ok (.aload_n 0, 1) := by decide +kernel
theorem kR_latest_1 : decode mR_latest.2.1 1 = .ok (.getfield 9, 3) := by decide +kernel
theorem kR_latest_4 : decode mR_latest.2.1 4 = .ok (.iconst 1, 1) := by decide +kernel
theorem kR_latest_5 : decode mR_latest.2.1 5 = .ok (.isub, 1) := by decide +kernel
theorem kR_latest_6 : decode mR_latest.2.1 6 = .ok (.istore_n 3, 1) := by decide +kernel
theorem kR_latest_7 : decode mR_latest.2.1 7 = .ok (.iload_n 3, 1) := by decide +kernel
theorem kR_latest_8 : decode mR_latest.2.1 8 = .ok (.ifCond .lt 31, 3) := by decide +kernel
theorem kR_latest_11 : decode mR_latest.2.1 11 = .ok (.aload_n 0, 1) := by decide +kernel
theorem kR_latest_12 : decode mR_latest.2.1 12 = .ok (.getfield 15, 3) := by decide +kernel
theorem kR_latest_15 : decode mR_latest.2.1 15 = .ok (.iload_n 3, 1) := by decide +kernel
theorem kR_latest_16 : decode mR_latest.2.1 16 = .ok (.iaload, 1) := by decide +kernel
theorem kR_latest_17 : decode mR_latest.2.1 17 = .ok (.iload_n 1, 1) := by decide +kernel
theorem kR_latest_18 : decode mR_latest.2.1 18 = .ok (.if_icmp .ne 15, 3) := by decide +kernel
theorem kR_latest_21 : decode mR_latest.2.1 21 = .ok (.aload_n 0, 1) := by decide +kernel
theorem kR_latest_22 : decode mR_latest.2.1 22 = .ok (.getfield 19, 3) := by decide +kernel
theorem kR_latest_25 : decode mR_latest.2.1 25 = .ok (.iload_n 3, 1) := by decide +kernel
theorem kR_latest_26 : decode mR_latest.2.1 26 = .ok (.iaload, 1) := by decide +kernel
theorem kR_latest_27 : decode mR_latest.2.1 27 = .ok (.iload_n 2, 1) := by decide +kernel
theorem kR_latest_28 : decode mR_latest.2.1 28 = .ok (.if_icmp .gt 5, 3) := by decide +kernel
theorem kR_latest_31 : decode mR_latest.2.1 31 = .ok (.iload_n 3, 1) := by decide +kernel
theorem kR_latest_32 : decode mR_latest.2.1 32 = .ok (.ireturn, 1) := by decide +kernel
theorem kR_latest_33 : decode mR_latest.2.1 33 = .ok (.iinc 3 (-1), 3) := by decide +kernel
theorem kR_latest_36 : decode mR_latest.2.1 36 = .ok (.goto (-29), 3) := by decide +kernel
theorem kR_latest_39 : decode mR_latest.2.1 39 = .ok (.iconst (-1), 1) := by decide +kernel
theorem kR_latest_40 : decode mR_latest.2.1 40 = .ok (.ireturn, 1) := by decide +kernel
theorem kR_something_0 : decode mR_something.2.1 0 = .ok (.aload_n 0, 1) := by decide +kernel
theorem kR_something_1 : decode mR_something.2.1 1 = .ok (.iload_n 1, 1) := by decide +kernel
theorem kR_something_2 : decode mR_something.2.1 2 = .ok (.iload_n 2, 1) := by decide +kernel
theorem kR_something_3 : decode mR_something.2.1 3 = .ok (.invokevirtual 30, 3) := by decide +kernel
theorem kR_something_6 : decode mR_something.2.1 6 = .ok (.istore_n 3, 1) := by decide +kernel
theorem kR_something_7 : decode mR_something.2.1 7 = .ok (.iload_n 3, 1) := by decide +kernel
theorem kR_something_8 : decode mR_something.2.1 8 = .ok (.iconst (-1), 1) := by decide +kernel
theorem kR_something_9 : decode mR_something.2.1 9 = .ok (.if_icmp .eq 16, 3) := by decide +kernel
theorem kR_something_12 : decode mR_something.2.1 12 = .ok (.aload_n 0, 1) := by decide +kernel
theorem kR_something_13 : decode mR_something.2.1 13 = .ok (.getfield 26, 3) := by decide +kernel
theorem kR_something_16 : decode mR_something.2.1 16 = .ok (.iload_n 3, 1) := by decide +kernel
theorem kR_something_17 : decode mR_something.2.1 17 = .ok (.baload, 1) := by decide +kernel
theorem kR_something_18 : decode mR_something.2.1 18 = .ok (.ifCond .eq 7, 3) := by decide +kernel
theorem kR_something_21 : decode mR_something.2.1 21 = .ok (.iconst (-1), 1) := by decide +kernel
theorem kR_something_22 : decode mR_something.2.1 22 = .ok (.goto 4, 3) := by decide +kernel
theorem kR_something_25 : decode mR_something.2.1 25 = .ok (.iload_n 3, 1) := by decide +kernel
theorem kR_something_26 : decode mR_something.2.1 26 = .ok (.ireturn, 1) := by decide +kernel
theorem kR_fromNewest_0 : decode mR_fromNewest.2.1 0 = .ok (.iconst 0, 1) := by decide +kernel
theorem kR_fromNewest_1 : decode mR_fromNewest.2.1 1 = .ok (.istore_n 3, 1) := by decide +kernel
theorem kR_fromNewest_2 : decode mR_fromNewest.2.1 2 = .ok (.aload_n 0, 1) := by decide +kernel
theorem kR_fromNewest_3 : decode mR_fromNewest.2.1 3 = .ok (.getfield 9, 3) := by decide +kernel
theorem kR_fromNewest_6 : decode mR_fromNewest.2.1 6 = .ok (.iconst 1, 1) := by decide +kernel
theorem kR_fromNewest_7 : decode mR_fromNewest.2.1 7 = .ok (.isub, 1) := by decide +kernel
theorem kR_fromNewest_8 : decode mR_fromNewest.2.1 8 = .ok (.istore 4, 2) := by decide +kernel
theorem kR_fromNewest_10 : decode mR_fromNewest.2.1 10 = .ok (.iload 4, 2) := by decide +kernel
theorem kR_fromNewest_12 : decode mR_fromNewest.2.1 12 = .ok (.ifCond .lt 31, 3) := by decide +kernel
theorem kR_fromNewest_15 : decode mR_fromNewest.2.1 15 = .ok (.aload_n 0, 1) := by decide +kernel
theorem kR_fromNewest_16 : decode mR_fromNewest.2.1 16 = .ok (.getfield 15, 3) := by decide +kernel
theorem kR_fromNewest_19 : decode mR_fromNewest.2.1 19 = .ok (.iload 4, 2) := by decide +kernel
theorem kR_fromNewest_21 : decode mR_fromNewest.2.1 21 = .ok (.iaload, 1) := by decide +kernel
theorem kR_fromNewest_22 : decode mR_fromNewest.2.1 22 = .ok (.iload_n 1, 1) := by decide +kernel
theorem kR_fromNewest_23 : decode mR_fromNewest.2.1 23 = .ok (.if_icmp .ne 14, 3) := by decide +kernel
theorem kR_fromNewest_26 : decode mR_fromNewest.2.1 26 = .ok (.iload_n 3, 1) := by decide +kernel
theorem kR_fromNewest_27 : decode mR_fromNewest.2.1 27 = .ok (.iload_n 2, 1) := by decide +kernel
theorem kR_fromNewest_28 : decode mR_fromNewest.2.1 28 = .ok (.if_icmp .ne 6, 3) := by decide +kernel
theorem kR_fromNewest_31 : decode mR_fromNewest.2.1 31 = .ok (.iload 4, 2) := by decide +kernel
theorem kR_fromNewest_33 : decode mR_fromNewest.2.1 33 = .ok (.ireturn, 1) := by decide +kernel
theorem kR_fromNewest_34 : decode mR_fromNewest.2.1 34 = .ok (.iinc 3 1, 3) := by decide +kernel
theorem kR_fromNewest_37 : decode mR_fromNewest.2.1 37 = .ok (.iinc 4 (-1), 3) := by decide +kernel
theorem kR_fromNewest_40 : decode mR_fromNewest.2.1 40 = .ok (.goto (-30), 3) := by decide +kernel
theorem kR_fromNewest_43 : decode mR_fromNewest.2.1 43 = .ok (.iconst (-1), 1) := by decide +kernel
theorem kR_fromNewest_44 : decode mR_fromNewest.2.1 44 = .ok (.ireturn, 1) := by decide +kernel
theorem kT_init_0 : decode mT_init.2.1 0 = .ok (.aload_n 0, 1) := by decide +kernel
theorem kT_init_1 : decode mT_init.2.1 1 = .ok (.invokespecial 3, 3) := by decide +kernel
theorem kT_init_4 : decode mT_init.2.1 4 = .ok (.aload_n 0, 1) := by decide +kernel
theorem kT_init_5 : decode mT_init.2.1 5 = .ok (.new 9, 3) := by decide +kernel
theorem kT_init_8 : decode mT_init.2.1 8 = .ok (.dup, 1) := by decide +kernel
theorem kT_init_9 : decode mT_init.2.1 9 = .ok (.bipush 12, 2) := by decide +kernel
theorem kT_init_11 : decode mT_init.2.1 11 = .ok (.invokespecial 11, 3) := by decide +kernel
theorem kT_init_14 : decode mT_init.2.1 14 = .ok (.putfield 14, 3) := by decide +kernel
theorem kT_init_17 : decode mT_init.2.1 17 = .ok (.aload_n 0, 1) := by decide +kernel
theorem kT_init_18 : decode mT_init.2.1 18 = .ok (.iconst 0, 1) := by decide +kernel
theorem kT_init_19 : decode mT_init.2.1 19 = .ok (.putfield 20, 3) := by decide +kernel
theorem kT_init_22 : decode mT_init.2.1 22 = .ok (.aload_n 0, 1) := by decide +kernel
theorem kT_init_23 : decode mT_init.2.1 23 = .ok (.iconst 0, 1) := by decide +kernel
theorem kT_init_24 : decode mT_init.2.1 24 = .ok (.putfield 24, 3) := by decide +kernel
theorem kT_init_27 : decode mT_init.2.1 27 = .ok (.aload_n 0, 1) := by decide +kernel
theorem kT_init_28 : decode mT_init.2.1 28 = .ok (.iconst 0, 1) := by decide +kernel
theorem kT_init_29 : decode mT_init.2.1 29 = .ok (.putfield 28, 3) := by decide +kernel
theorem kT_init_32 : decode mT_init.2.1 32 = .ok (.return_, 1) := by decide +kernel
theorem kT_reopen_0 : decode mT_reopen.2.1 0 = .ok (.aload_n 0, 1) := by decide +kernel
theorem kT_reopen_1 : decode mT_reopen.2.1 1 = .ok (.iconst 1, 1) := by decide +kernel
theorem kT_reopen_2 : decode mT_reopen.2.1 2 = .ok (.putfield 20, 3) := by decide +kernel
theorem kT_reopen_5 : decode mT_reopen.2.1 5 = .ok (.aload_n 0, 1) := by decide +kernel
theorem kT_reopen_6 : decode mT_reopen.2.1 6 = .ok (.iload_n 1, 1) := by decide +kernel
theorem kT_reopen_7 : decode mT_reopen.2.1 7 = .ok (.putfield 24, 3) := by decide +kernel
theorem kT_reopen_10 : decode mT_reopen.2.1 10 = .ok (.aload_n 0, 1) := by decide +kernel
theorem kT_reopen_11 : decode mT_reopen.2.1 11 = .ok (.iload_n 2, 1) := by decide +kernel
theorem kT_reopen_12 : decode mT_reopen.2.1 12 = .ok (.putfield 28, 3) := by decide +kernel
theorem kT_reopen_15 : decode mT_reopen.2.1 15 = .ok (.aload_n 0, 1) := by decide +kernel
theorem kT_reopen_16 : decode mT_reopen.2.1 16 = .ok (.getfield 14, 3) := by decide +kernel
theorem kT_reopen_19 : decode mT_reopen.2.1 19 = .ok (.iconst 0, 1) := by decide +kernel
theorem kT_reopen_20 : decode mT_reopen.2.1 20 = .ok (.putfield 31, 3) := by decide +kernel
theorem kT_reopen_23 : decode mT_reopen.2.1 23 = .ok (.return_, 1) := by decide +kernel
theorem kT_isLastOfItsKey_0 : decode mT_isLastOfItsKey.2.1 0 = .ok (.aload_n 0, 1) := by decide +kernel
theorem kT_isLastOfItsKey_1 : decode mT_isLastOfItsKey.2.1 1 = .ok (.getfield 14, 3) := by decide +kernel
theorem kT_isLastOfItsKey_4 : decode mT_isLastOfItsKey.2.1 4 = .ok (.aload_n 0, 1) := by decide +kernel
theorem kT_isLastOfItsKey_5 : decode mT_isLastOfItsKey.2.1 5 = .ok (.getfield 14, 3) := by decide +kernel
theorem kT_isLastOfItsKey_8 : decode mT_isLastOfItsKey.2.1 8 = .ok (.getfield 34, 3) := by decide +kernel
theorem kT_isLastOfItsKey_11 : decode mT_isLastOfItsKey.2.1 11 = .ok (.iload_n 1, 1) := by decide +kernel
theorem kT_isLastOfItsKey_12 : decode mT_isLastOfItsKey.2.1 12 = .ok (.iaload, 1) := by decide +kernel
theorem kT_isLastOfItsKey_13 : decode mT_isLastOfItsKey.2.1 13 = .ok (.aload_n 0, 1) := by decide +kernel
theorem kT_isLastOfItsKey_14 : decode mT_isLastOfItsKey.2.1 14 = .ok (.getfield 28, 3) := by decide +kernel
theorem kT_isLastOfItsKey_17 : decode mT_isLastOfItsKey.2.1 17 = .ok (.invokevirtual 38, 3) := by decide +kernel
theorem kT_isLastOfItsKey_20 : decode mT_isLastOfItsKey.2.1 20 = .ok (.iload_n 1, 1) := by decide +kernel
theorem kT_isLastOfItsKey_21 : decode mT_isLastOfItsKey.2.1 21 = .ok (.if_icmp .ne 7, 3) := by decide +kernel
theorem kT_isLastOfItsKey_24 : decode mT_isLastOfItsKey.2.1 24 = .ok (.iconst 1, 1) := by decide +kernel
theorem kT_isLastOfItsKey_25 : decode mT_isLastOfItsKey.2.1 25 = .ok (.goto 4, 3) := by decide +kernel
theorem kT_isLastOfItsKey_28 : decode mT_isLastOfItsKey.2.1 28 = .ok (.iconst 0, 1) := by decide +kernel
theorem kT_isLastOfItsKey_29 : decode mT_isLastOfItsKey.2.1 29 = .ok (.ireturn, 1) := by decide +kernel
