theorem kS_init_0 : decode mS_init.2.1 0 = .ok (.aload_n 0, 1) := by decide +kernel
theorem kS_init_1 : decode mS_init.2.1 1 = .ok (.invokespecial 1, 3) := by decide +kernel
theorem kS_init_4 : decode mS_init.2.1 4 = .ok (.aload_n 0, 1) := by decide +kernel
theorem kS_init_5 : decode mS_init.2.1 5 = .ok (.new 7, 3) := by decide +kernel
theorem kS_init_8 : decode mS_init.2.1 8 = .ok (.dup, 1) := by decide +kernel
theorem kS_init_9 : decode mS_init.2.1 9 = .ok (.bipush 48, 2) := by decide +kernel
theorem kS_init_11 : decode mS_init.2.1 11 = .ok (.invokespecial 11, 3) := by decide +kernel
theorem kS_init_14 : decode mS_init.2.1 14 = .ok (.putfield 14, 3) := by decide +kernel
theorem kS_init_17 : decode mS_init.2.1 17 = .ok (.aload_n 0, 1) := by decide +kernel
theorem kS_init_18 : decode mS_init.2.1 18 = .ok (.bipush 6, 2) := by decide +kernel
theorem kS_init_20 : decode mS_init.2.1 20 = .ok (.anewarray 18, 3) := by decide +kernel
theorem kS_init_23 : decode mS_init.2.1 23 = .ok (.putfield 20, 3) := by decide +kernel
theorem kS_init_26 : decode mS_init.2.1 26 = .ok (.aload_n 0, 1) := by decide +kernel
theorem kS_init_27 : decode mS_init.2.1 27 = .ok (.iconst 0, 1) := by decide +kernel
theorem kS_init_28 : decode mS_init.2.1 28 = .ok (.putfield 24, 3) := by decide +kernel
theorem kS_init_31 : decode mS_init.2.1 31 = .ok (.aload_n 0, 1) := by decide +kernel
theorem kS_init_32 : decode mS_init.2.1 32 = .ok (.iconst 0, 1) := by decide +kernel
theorem kS_init_33 : decode mS_init.2.1 33 = .ok (.putfield 28, 3) := by decide +kernel
theorem kS_init_36 : decode mS_init.2.1 36 = .ok (.aload_n 0, 1) := by decide +kernel
theorem kS_init_37 : decode mS_init.2.1 37 = .ok (.iconst 0, 1) := by decide +kernel
theorem kS_init_38 : decode mS_init.2.1 38 = .ok (.putfield 31, 3) := by decide +kernel
theorem kS_init_41 : decode mS_init.2.1 41 = .ok (.iconst 0, 1) := by decide +kernel
theorem kS_init_42 : decode mS_init.2.1 42 = .ok (.istore_n 1, 1) := by decide +kernel
theorem kS_init_43 : decode mS_init.2.1 43 = .ok (.iload_n 1, 1) := by decide +kernel
theorem kS_init_44 : decode mS_init.2.1 44 = .ok (.aload_n 0, 1) := by decide +kernel
theorem kS_init_45 : decode mS_init.2.1 45 = .ok (.getfield 20, 3) := by decide +kernel
theorem kS_init_48 : decode mS_init.2.1 48 = .ok (.arraylength, 1) := by decide +kernel
theorem kS_init_49 : decode mS_init.2.1 49 = .ok (.if_icmp .ge 22, 3) := by decide +kernel
theorem kS_init_52 : decode mS_init.2.1 52 = .ok (.aload_n 0, 1) := by decide +kernel
theorem kS_init_53 : decode mS_init.2.1 53 = .ok (.getfield 20, 3) := by decide +kernel
theorem kS_init_56 : decode mS_init.2.1 56 = .ok (.iload_n 1, 1) := by decide +kernel
theorem kS_init_57 : decode mS_init.2.1 57 = .ok (.new 18, 3) := by decide +kernel
theorem kS_init_60 : decode mS_init.2.1 60 = .ok (.dup, 1) := by decide +kernel
theorem kS_init_61 : decode mS_init.2.1 61 = .ok (.invokespecial 34, 3) := by decide +kernel
theorem kS_init_64 : decode mS_init.2.1 64 = .ok (.aastore, 1) := by decide +kernel
theorem kS_init_65 : decode mS_init.2.1 65 = .ok (.iinc 1 1, 3) := by decide +kernel
theorem kS_init_68 : decode mS_init.2.1 68 = .ok (.goto (-25), 3) := by decide +kernel
theorem kS_init_71 : decode mS_init.2.1 71 = .ok (.return_, 1) := by decide +kernel
theorem kS_begin_0 : decode mS_begin.2.1 0 = .ok (.aload_n 0, 1) := by decide +kernel
theorem kS_begin_1 : decode mS_begin.2.1 1 = .ok (.aload_n 0, 1) := by decide +kernel
theorem kS_begin_2 : decode mS_begin.2.1 2 = .ok (.getfield 24, 3) := by decide +kernel
theorem kS_begin_5 : decode mS_begin.2.1 5 = .ok (.invokevirtual 35, 3) := by decide +kernel
theorem kS_begin_8 : decode mS_begin.2.1 8 = .ok (.ireturn, 1) := by decide +kernel
theorem kS_beginAt_0 : decode mS_beginAt.2.1 0 = .ok (.iload_n 1, 1) := by decide +kernel
theorem kS_beginAt_1 : decode mS_beginAt.2.1 1 = .ok (.aload_n 0, 1) := by decide +kernel
theorem kS_beginAt_2 : decode mS_beginAt.2.1 2 = .ok (.getfield 28, 3) := by decide +kernel
theorem kS_beginAt_5 : decode mS_beginAt.2.1 5 = .ok (.if_icmp .lt 11, 3) := by decide +kernel
theorem kS_beginAt_8 : decode mS_beginAt.2.1 8 = .ok (.iload_n 1, 1) := by decide +kernel
theorem kS_beginAt_9 : decode mS_beginAt.2.1 9 = .ok (.aload_n 0, 1) := by decide +kernel
theorem kS_beginAt_10 : decode mS_beginAt.2.1 10 = .ok (.getfield 24, 3) := by decide +kernel
theorem kS_beginAt_13 : decode mS_beginAt.2.1 13 = .ok (.if_icmp .le 13, 3) := by decide +kernel
theorem kS_beginAt_16 : decode mS_beginAt.2.1 16 = .ok (.new 39, 3) := by decide +kernel
theorem kS_beginAt_19 : decode mS_beginAt.2.1 19 = .ok (.dup, 1) := by decide +kernel
theorem kS_beginAt_20 : decode mS_beginAt.2.1 20 = .ok (.ldc 41, 2) := by decide +kernel
theorem kS_beginAt_22 : decode mS_beginAt.2.1 22 = .ok (.invokespecial 43, 3) := by decide +kernel
theorem kS_beginAt_25 : decode mS_beginAt.2.1 25 = .ok (.athrow, 1) := by decide +kernel
theorem kS_beginAt_26 : decode mS_beginAt.2.1 26 = .ok (.aload_n 0, 1) := by decide +kernel
theorem kS_beginAt_27 : decode mS_beginAt.2.1 27 = .ok (.iload_n 1, 1) := by decide +kernel
theorem kS_beginAt_28 : decode mS_beginAt.2.1 28 = .ok (.invokevirtual 35, 3) := by decide +kernel
theorem kS_beginAt_31 : decode mS_beginAt.2.1 31 = .ok (.ireturn, 1) := by decide +kernel
theorem kS_read_0 : decode mS_read.2.1 0 = .ok (.aload_n 0, 1) := by decide +kernel
theorem kS_read_1 : decode mS_read.2.1 1 = .ok (.iload_n 1, 1) := by decide +kernel
theorem kS_read_2 : decode mS_read.2.1 2 = .ok (.invokevirtual 46, 3) := by decide +kernel
theorem kS_read_5 : decode mS_read.2.1 5 = .ok (.astore_n 3, 1) := by decide +kernel
theorem kS_read_6 : decode mS_read.2.1 6 = .ok (.iload_n 2, 1) := by decide +kernel
theorem kS_read_7 : decode mS_read.2.1 7 = .ok (.invokestatic 50, 3) := by decide +kernel
theorem kS_read_10 : decode mS_read.2.1 10 = .ok (.aload_n 0, 1) := by decide +kernel
theorem kS_read_11 : decode mS_read.2.1 11 = .ok (.aload_n 3, 1) := by decide +kernel
theorem kS_read_12 : decode mS_read.2.1 12 = .ok (.iload_n 2, 1) := by decide +kernel
theorem kS_read_13 : decode mS_read.2.1 13 = .ok (.invokevirtual 53, 3) := by decide +kernel
theorem kS_read_16 : decode mS_read.2.1 16 = .ok (.astore 4, 2) := by decide +kernel
theorem kS_read_18 : decode mS_read.2.1 18 = .ok (.aload 4, 2) := by decide +kernel
theorem kS_read_20 : decode mS_read.2.1 20 = .ok (.iload_n 2, 1) := by decide +kernel
theorem kS_read_21 : decode mS_read.2.1 21 = .ok (.aload_n 3, 1) := by decide +kernel
theorem kS_read_22 : decode mS_read.2.1 22 = .ok (.getfield 57, 3) := by decide +kernel
theorem kS_read_25 : decode mS_read.2.1 25 = .ok (.invokevirtual 60, 3) := by decide +kernel
theorem kS_read_28 : decode mS_read.2.1 28 = .ok (.istore 5, 2) := by decide +kernel
theorem kS_read_30 : decode mS_read.2.1 30 = .ok (.iload 5, 2) := by decide +kernel
theorem kS_read_32 : decode mS_read.2.1 32 = .ok (.iconst (-1), 1) := by decide +kernel
theorem kS_read_33 : decode mS_read.2.1 33 = .ok (.if_icmp .ne 13, 3) := by decide +kernel
theorem kS_read_36 : decode mS_read.2.1 36 = .ok (.new 64, 3) := by decide +kernel
theorem kS_read_39 : decode mS_read.2.1 39 = .ok (.dup, 1) := by decide +kernel
theorem kS_read_40 : decode mS_read.2.1 40 = .ok (.ldc 66, 2) := by decide +kernel
theorem kS_read_42 : decode mS_read.2.1 42 = .ok (.invokespecial 68, 3) := by decide +kernel
theorem kS_read_45 : decode mS_read.2.1 45 = .ok (.athrow, 1) := by decide +kernel
theorem kS_read_46 : decode mS_read.2.1 46 = .ok (.aload 4, 2) := by decide +kernel
theorem kS_read_48 : decode mS_read.2.1 48 = .ok (.getfield 69, 3) := by decide +kernel
theorem kS_read_51 : decode mS_read.2.1 51 = .ok (.iload 5, 2) := by decide +kernel
theorem kS_read_53 : decode mS_read.2.1 53 = .ok (.laload, 1) := by decide +kernel
theorem kS_read_54 : decode mS_read.2.1 54 = .ok (.lreturn, 1) := by decide +kernel
theorem kS_write_0 : decode mS_write.2.1 0 = .ok (.aload_n 0, 1) := by decide +kernel
theorem kS_write_1 : decode mS_write.2.1 1 = .ok (.iload_n 1, 1) := by decide +kernel
theorem kS_write_2 : decode mS_write.2.1 2 = .ok (.invokevirtual 46, 3) := by decide +kernel
theorem kS_write_5 : decode mS_write.2.1 5 = .ok (.astore 5, 2) := by decide +kernel
theorem kS_write_7 : decode mS_write.2.1 7 = .ok (.iload_n 2, 1) := by decide +kernel
theorem kS_write_8 : decode mS_write.2.1 8 = .ok (.invokestatic 50, 3) := by decide +kernel
theorem kS_write_11 : decode mS_write.2.1 11 = .ok (.aload 5, 2) := by decide +kernel
theorem kS_write_13 : decode mS_write.2.1 13 = .ok (.iload_n 2, 1) := by decide +kernel
theorem kS_write_14 : decode mS_write.2.1 14 = .ok (.lload_n 3, 1) := by decide +kernel
theorem kS_write_15 : decode mS_write.2.1 15 = .ok (.iconst 0, 1) := by decide +kernel
theorem kS_write_16 : decode mS_write.2.1 16 = .ok (.invokestatic 73, 3) := by decide +kernel
theorem kS_write_19 : decode mS_write.2.1 19 = .ok (.return_, 1) := by decide +kernel
theorem kS_erase_0 : decode mS_erase.2.1 0 = .ok (.aload_n 0, 1) := by decide +kernel
theorem kS_erase_1 : decode mS_erase.2.1 1 = .ok (.iload_n 1, 1) := by decide +kernel
theorem kS_erase_2 : decode mS_erase.2.1 2 = .ok (.invokevirtual 46, 3) := by decide +kernel
theorem kS_erase_5 : decode mS_erase.2.1 5 = .ok (.astore_n 3, 1) := by decide +kernel
theorem kS_erase_6 : decode mS_erase.2.1 6 = .ok (.iload_n 2, 1) := by decide +kernel
theorem kS_erase_7 : decode mS_erase.2.1 7 = .ok (.invokestatic 50, 3) := by decide +kernel
theorem kS_erase_10 : decode mS_erase.2.1 10 = .ok (.aload_n 0, 1) := by decide +kernel
theorem kS_erase_11 : decode mS_erase.2.1 11 = .ok (.aload_n 3, 1) := by decide +kernel
theorem kS_erase_12 : decode mS_erase.2.1 12 = .ok (.iload_n 2, 1) := by decide +kernel
theorem kS_erase_13 : decode mS_erase.2.1 13 = .ok (.invokevirtual 77, 3) := by decide +kernel
theorem kS_erase_16 : decode mS_erase.2.1 16 = .ok (.ifCond .ne 13, 3) := by decide +kernel
theorem kS_erase_19 : decode mS_erase.2.1 19 = .ok (.new 64, 3) := by decide +kernel
theorem kS_erase_22 : decode mS_erase.2.1 22 = .ok (.dup, 1) := by decide +kernel
theorem kS_erase_23 : decode mS_erase.2.1 23 = .ok (.ldc 66, 2) := by decide +kernel
theorem kS_erase_25 : decode mS_erase.2.1 25 = .ok (.invokespecial 68, 3) := by decide +kernel
theorem kS_erase_28 : decode mS_erase.2.1 28 = .ok (.athrow, 1) := by decide +kernel
theorem kS_erase_29 : decode mS_erase.2.1 29 = .ok (.aload_n 3, 1) := by decide +kernel
theorem kS_erase_30 : decode mS_erase.2.1 30 = .ok (.iload_n 2, 1) := by decide +kernel
theorem kS_erase_31 : decode mS_erase.2.1 31 = .ok (.lconst 0, 1) := by decide +kernel
theorem kS_erase_32 : decode mS_erase.2.1 32 = .ok (.iconst 1, 1) := by decide +kernel
theorem kS_erase_33 : decode mS_erase.2.1 33 = .ok (.invokestatic 73, 3) := by decide +kernel
theorem kS_erase_36 : decode mS_erase.2.1 36 = .ok (.return_, 1) := by decide +kernel
theorem kS_mark_0 : decode mS_mark.2.1 0 = .ok (.aload_n 0, 1) := by decide +kernel
theorem kS_mark_1 : decode mS_mark.2.1 1 = .ok (.iload_n 1, 1) := by decide +kernel
theorem kS_mark_2 : decode mS_mark.2.1 2 = .ok (.invokevirtual 46, 3) := by decide +kernel
theorem kS_mark_5 : decode mS_mark.2.1 5 = .ok (.getfield 81, 3) := by decide +kernel
theorem kS_mark_8 : decode mS_mark.2.1 8 = .ok (.getfield 84, 3) := by decide +kernel
theorem kS_mark_11 : decode mS_mark.2.1 11 = .ok (.ireturn, 1) := by decide +kernel
theorem kS_rollback_0 : decode mS_rollback.2.1 0 = .ok (.aload_n 0, 1) := by decide +kernel
theorem kS_rollback_1 : decode mS_rollback.2.1 1 = .ok (.iload_n 1, 1) := by decide +kernel
theorem kS_rollback_2 : decode mS_rollback.2.1 2 = .ok (.invokevirtual 46, 3) := by decide +kernel
theorem kS_rollback_5 : decode mS_rollback.2.1 5 = .ok (.getfield 81, 3) := by decide +kernel
theorem kS_rollback_8 : decode mS_rollback.2.1 8 = .ok (.astore_n 3, 1) := by decide +kernel
theorem kS_rollback_9 : decode mS_rollback.2.1 9 = .ok (.iload_n 2, 1) := by decide +kernel
theorem kS_rollback_10 : decode mS_rollback.2.1 10 = .ok (.ifCond .lt 11, 3) := by decide +kernel
theorem kS_rollback_13 : decode mS_rollback.2.1 13 = .ok (.iload_n 2, 1) := by decide +kernel
theorem kS_rollback_14 : decode mS_rollback.2.1 14 = .ok (.aload_n 3, 1) := by decide +kernel
theorem kS_rollback_15 : decode mS_rollback.2.1 15 = .ok (.getfield 84, 3) := by decide +kernel
theorem kS_rollback_18 : decode mS_rollback.2.1 18 = .ok (.if_icmp .le 13, 3) := by decide +kernel
theorem kS_rollback_21 : decode mS_rollback.2.1 21 = .ok (.new 39, 3) := by decide +kernel
theorem kS_rollback_24 : decode mS_rollback.2.1 24 = .ok (.dup, 1) := by decide +kernel
theorem kS_rollback_25 : decode mS_rollback.2.1 25 = .ok (.ldc 87, 2) := by decide +kernel
theorem kS_rollback_27 : decode mS_rollback.2.1 27 = .ok (.invokespecial 43, 3) := by decide +kernel
theorem kS_rollback_30 : decode mS_rollback.2.1 30 = .ok (.athrow, 1) := by decide +kernel
theorem kS_rollback_31 : decode mS_rollback.2.1 31 = .ok (.aload_n 3, 1) := by decide +kernel
theorem kS_rollback_32 : decode mS_rollback.2.1 32 = .ok (.iload_n 2, 1) := by decide +kernel
theorem kS_rollback_33 : decode mS_rollback.2.1 33 = .ok (.putfield 84, 3) := by decide +kernel
theorem kS_rollback_36 : decode mS_rollback.2.1 36 = .ok (.return_, 1) := by decide +kernel
theorem kS_next_0 : decode mS_next.2.1 0 = .ok (.aload_n 0, 1) := by decide +kernel
theorem kS_next_1 : decode mS_next.2.1 1 = .ok (.iload_n 1, 1) := by decide +kernel
theorem kS_next_2 : decode mS_next.2.1 2 = .ok (.invokevirtual 46, 3) := by decide +kernel
theorem kS_next_5 : decode mS_next.2.1 5 = .ok (.astore_n 3, 1) := by decide +kernel
theorem kS_next_6 : decode mS_next.2.1 6 = .ok (.iload_n 2, 1) := by decide +kernel
theorem kS_next_7 : decode mS_next.2.1 7 = .ok (.invokestatic 50, 3) := by decide +kernel
theorem kS_next_10 : decode mS_next.2.1 10 = .ok (.iload_n 2, 1) := by decide +kernel
theorem kS_next_11 : decode mS_next.2.1 11 = .ok (.istore 4, 2) := by decide +kernel
theorem kS_next_13 : decode mS_next.2.1 13 = .ok (.iload 4, 2) := by decide +kernel
theorem kS_next_15 : decode mS_next.2.1 15 = .ok (.bipush 16, 2) := by decide +kernel
theorem kS_next_17 : decode mS_next.2.1 17 = .ok (.if_icmp .ge 22, 3) := by decide +kernel
theorem kS_next_20 : decode mS_next.2.1 20 = .ok (.aload_n 0, 1) := by decide +kernel
theorem kS_next_21 : decode mS_next.2.1 21 = .ok (.aload_n 3, 1) := by decide +kernel
theorem kS_next_22 : decode mS_next.2.1 22 = .ok (.iload 4, 2) := by decide +kernel
theorem kS_next_24 : decode mS_next.2.1 24 = .ok (.invokevirtual 77, 3) := by decide +kernel
theorem kS_next_27 : decode mS_next.2.1 27 = .ok (.ifCond .eq 6, 3) := by decide +kernel
theorem kS_next_30 : decode mS_next.2.1 30 = .ok (.iload 4, 2) := by decide +kernel
theorem kS_next_32 : decode mS_next.2.1 32 = .ok (.ireturn, 1) := by decide +kernel
theorem kS_next_33 : decode mS_next.2.1 33 = .ok (.iinc 4 1, 3) := by decide +kernel
theorem kS_next_36 : decode mS_next.2.1 36 = .ok (.goto (-23), 3) := by decide +kernel
theorem kS_next_39 : decode mS_next.2.1 39 = .ok (.iconst (-1), 1) := by decide +kernel
theorem kS_next_40 : decode mS_next.2.1 40 = .ok (.ireturn, 1) := by decide +kernel
theorem kS_commit_0 : decode mS_commit.2.1 0 = .ok (.aload_n 0, 1) := by decide +kernel
theorem kS_commit_1 : decode mS_commit.2.1 1 = .ok (.iload_n 1, 1) := by decide +kernel
theorem kS_commit_2 : decode mS_commit.2.1 2 = .ok (.invokevirtual 46, 3) := by decide +kernel
theorem kS_commit_5 : decode mS_commit.2.1 5 = .ok (.astore_n 2, 1) := by decide +kernel
theorem kS_commit_6 : decode mS_commit.2.1 6 = .ok (.aload_n 2, 1) := by decide +kernel
theorem kS_commit_7 : decode mS_commit.2.1 7 = .ok (.getfield 81, 3) := by decide +kernel
theorem kS_commit_10 : decode mS_commit.2.1 10 = .ok (.getfield 84, 3) := by decide +kernel
theorem kS_commit_13 : decode mS_commit.2.1 13 = .ok (.ifCond .ne 13, 3) := by decide +kernel
theorem kS_commit_16 : decode mS_commit.2.1 16 = .ok (.aload_n 2, 1) := by decide +kernel
theorem kS_commit_17 : decode mS_commit.2.1 17 = .ok (.iconst 0, 1) := by decide +kernel
theorem kS_commit_18 : decode mS_commit.2.1 18 = .ok (.putfield 89, 3) := by decide +kernel
theorem kS_commit_21 : decode mS_commit.2.1 21 = .ok (.aload_n 0, 1) := by decide +kernel
theorem kS_commit_22 : decode mS_commit.2.1 22 = .ok (.getfield 24, 3) := by decide +kernel
theorem kS_commit_25 : decode mS_commit.2.1 25 = .ok (.ireturn, 1) := by decide +kernel
theorem kS_commit_26 : decode mS_commit.2.1 26 = .ok (.aload_n 0, 1) := by decide +kernel
theorem kS_commit_27 : decode mS_commit.2.1 27 = .ok (.aload_n 2, 1) := by decide +kernel
theorem kS_commit_28 : decode mS_commit.2.1 28 = .ok (.invokevirtual 93, 3) := by decide +kernel
theorem kS_commit_31 : decode mS_commit.2.1 31 = .ok (.ifCond .eq 10, 3) := by decide +kernel
theorem kS_commit_34 : decode mS_commit.2.1 34 = .ok (.aload_n 2, 1) := by decide +kernel
theorem kS_commit_35 : decode mS_commit.2.1 35 = .ok (.iconst 0, 1) := by decide +kernel
theorem kS_commit_36 : decode mS_commit.2.1 36 = .ok (.putfield 89, 3) := by decide +kernel
theorem kS_commit_39 : decode mS_commit.2.1 39 = .ok (.iconst (-1), 1) := by decide +kernel
theorem kS_commit_40 : decode mS_commit.2.1 40 = .ok (.ireturn, 1) := by decide +kernel
theorem kS_commit_41 : decode mS_commit.2.1 41 = .ok (.aload_n 0, 1) := by decide +kernel
theorem kS_commit_42 : decode mS_commit.2.1 42 = .ok (.getfield 14, 3) := by decide +kernel
theorem kS_commit_45 : decode mS_commit.2.1 45 = .ok (.getfield 84, 3) := by decide +kernel
theorem kS_commit_48 : decode mS_commit.2.1 48 = .ok (.aload_n 2, 1) := by decide +kernel
theorem kS_commit_49 : decode mS_commit.2.1 49 = .ok (.invokestatic 97, 3) := by decide +kernel
theorem kS_commit_52 : decode mS_commit.2.1 52 = .ok (.iadd, 1) := by decide +kernel
theorem kS_commit_53 : decode mS_commit.2.1 53 = .ok (.bipush 48, 2) := by decide +kernel
theorem kS_commit_55 : decode mS_commit.2.1 55 = .ok (.if_icmp .le 13, 3) := by decide +kernel
theorem kS_commit_58 : decode mS_commit.2.1 58 = .ok (.new 101, 3) := by decide +kernel
theorem kS_commit_61 : decode mS_commit.2.1 61 = .ok (.dup, 1) := by decide +kernel
theorem kS_commit_62 : decode mS_commit.2.1 62 = .ok (.ldc 103, 2) := by decide +kernel
theorem kS_commit_64 : decode mS_commit.2.1 64 = .ok (.invokespecial 105, 3) := by decide +kernel
theorem kS_commit_67 : decode mS_commit.2.1 67 = .ok (.athrow, 1) := by decide +kernel
theorem kS_commit_68 : decode mS_commit.2.1 68 = .ok (.aload_n 0, 1) := by decide +kernel
theorem kS_commit_69 : decode mS_commit.2.1 69 = .ok (.dup, 1) := by decide +kernel
theorem kS_commit_70 : decode mS_commit.2.1 70 = .ok (.getfield 24, 3) := by decide +kernel
theorem kS_commit_73 : decode mS_commit.2.1 73 = .ok (.iconst 1, 1) := by decide +kernel
theorem kS_commit_74 : decode mS_commit.2.1 74 = .ok (.iadd, 1) := by decide +kernel
theorem kS_commit_75 : decode mS_commit.2.1 75 = .ok (.putfield 24, 3) := by decide +kernel
theorem kS_commit_78 : decode mS_commit.2.1 78 = .ok (.aload_n 0, 1) := by decide +kernel
theorem kS_commit_79 : decode mS_commit.2.1 79 = .ok (.aload_n 2, 1) := by decide +kernel
theorem kS_commit_80 : decode mS_commit.2.1 80 = .ok (.invokevirtual 106, 3) := by decide +kernel
theorem kS_commit_83 : decode mS_commit.2.1 83 = .ok (.aload_n 2, 1) := by decide +kernel
theorem kS_commit_84 : decode mS_commit.2.1 84 = .ok (.iconst 0, 1) := by decide +kernel
theorem kS_commit_85 : decode mS_commit.2.1 85 = .ok (.putfield 89, 3) := by decide +kernel
theorem kS_commit_88 : decode mS_commit.2.1 88 = .ok (.aload_n 0, 1) := by decide +kernel
theorem kS_commit_89 : decode mS_commit.2.1 89 = .ok (.getfield 24, 3) := by decide +kernel
theorem kS_commit_92 : decode mS_commit.2.1 92 = .ok (.ireturn, 1) := by decide +kernel
theorem kS_abort_0 : decode mS_abort.2.1 0 = .ok (.aload_n 0, 1) := by decide +kernel
theorem kS_abort_1 : decode mS_abort.2.1 1 = .ok (.iload_n 1, 1) := by decide +kernel
theorem kS_abort_2 : decode mS_abort.2.1 2 = .ok (.invokevirtual 46, 3) := by decide +kernel
theorem kS_abort_5 : decode mS_abort.2.1 5 = .ok (.iconst 0, 1) := by decide +kernel
theorem kS_abort_6 : decode mS_abort.2.1 6 = .ok (.putfield 89, 3) := by decide +kernel
theorem kS_abort_9 : decode mS_abort.2.1 9 = .ok (.return_, 1) := by decide +kernel
theorem kS_vacuum_0 : decode mS_vacuum.2.1 0 = .ok (.iconst 0, 1) := by decide +kernel
theorem kS_vacuum_1 : decode mS_vacuum.2.1 1 = .ok (.istore_n 1, 1) := by decide +kernel
theorem kS_vacuum_2 : decode mS_vacuum.2.1 2 = .ok (.aload_n 0, 1) := by decide +kernel
theorem kS_vacuum_3 : decode mS_vacuum.2.1 3 = .ok (.getfield 14, 3) := by decide +kernel
theorem kS_vacuum_6 : decode mS_vacuum.2.1 6 = .ok (.getfield 84, 3) := by decide +kernel
theorem kS_vacuum_9 : decode mS_vacuum.2.1 9 = .ok (.iconst 1, 1) := by decide +kernel
theorem kS_vacuum_10 : decode mS_vacuum.2.1 10 = .ok (.isub, 1) := by decide +kernel
theorem kS_vacuum_11 : decode mS_vacuum.2.1 11 = .ok (.istore_n 2, 1) := by decide +kernel
theorem kS_vacuum_12 : decode mS_vacuum.2.1 12 = .ok (.iload_n 2, 1) := by decide +kernel
theorem kS_vacuum_13 : decode mS_vacuum.2.1 13 = .ok (.ifCond .lt 28, 3) := by decide +kernel
theorem kS_vacuum_16 : decode mS_vacuum.2.1 16 = .ok (.aload_n 0, 1) := by decide +kernel
theorem kS_vacuum_17 : decode mS_vacuum.2.1 17 = .ok (.iload_n 2, 1) := by decide +kernel
theorem kS_vacuum_18 : decode mS_vacuum.2.1 18 = .ok (.invokevirtual 110, 3) := by decide +kernel
theorem kS_vacuum_21 : decode mS_vacuum.2.1 21 = .ok (.ifCond .ne 14, 3) := by decide +kernel
theorem kS_vacuum_24 : decode mS_vacuum.2.1 24 = .ok (.aload_n 0, 1) := by decide +kernel
theorem kS_vacuum_25 : decode mS_vacuum.2.1 25 = .ok (.getfield 14, 3) := by decide +kernel
theorem kS_vacuum_28 : decode mS_vacuum.2.1 28 = .ok (.iload_n 2, 1) := by decide +kernel
theorem kS_vacuum_29 : decode mS_vacuum.2.1 29 = .ok (.invokevirtual 114, 3) := by decide +kernel
theorem kS_vacuum_32 : decode mS_vacuum.2.1 32 = .ok (.iinc 1 1, 3) := by decide +kernel
theorem kS_vacuum_35 : decode mS_vacuum.2.1 35 = .ok (.iinc 2 (-1), 3) := by decide +kernel
theorem kS_vacuum_38 : decode mS_vacuum.2.1 38 = .ok (.goto (-26), 3) := by decide +kernel
theorem kS_vacuum_41 : decode mS_vacuum.2.1 41 = .ok (.aload_n 0, 1) := by decide +kernel
theorem kS_vacuum_42 : decode mS_vacuum.2.1 42 = .ok (.aload_n 0, 1) := by decide +kernel
theorem kS_vacuum_43 : decode mS_vacuum.2.1 43 = .ok (.getfield 24, 3) := by decide +kernel
theorem kS_vacuum_46 : decode mS_vacuum.2.1 46 = .ok (.putfield 28, 3) := by decide +kernel
theorem kS_vacuum_49 : decode mS_vacuum.2.1 49 = .ok (.iload_n 1, 1) := by decide +kernel
theorem kS_vacuum_50 : decode mS_vacuum.2.1 50 = .ok (.ireturn, 1) := by decide +kernel
theorem kS_time_0 : decode mS_time.2.1 0 = .ok (.aload_n 0, 1) := by decide +kernel
theorem kS_time_1 : decode mS_time.2.1 1 = .ok (.getfield 24, 3) := by decide +kernel
theorem kS_time_4 : decode mS_time.2.1 4 = .ok (.ireturn, 1) := by decide +kernel
theorem kS_live_0 : decode mS_live.2.1 0 = .ok (.iconst 0, 1) := by decide +kernel
theorem kS_live_1 : decode mS_live.2.1 1 = .ok (.istore_n 1, 1) := by decide +kernel
theorem kS_live_2 : decode mS_live.2.1 2 = .ok (.iconst 0, 1) := by decide +kernel
theorem kS_live_3 : decode mS_live.2.1 3 = .ok (.istore_n 2, 1) := by decide +kernel
theorem kS_live_4 : decode mS_live.2.1 4 = .ok (.iload_n 2, 1) := by decide +kernel
theorem kS_live_5 : decode mS_live.2.1 5 = .ok (.aload_n 0, 1) := by decide +kernel
theorem kS_live_6 : decode mS_live.2.1 6 = .ok (.getfield 20, 3) := by decide +kernel
theorem kS_live_9 : decode mS_live.2.1 9 = .ok (.arraylength, 1) := by decide +kernel
theorem kS_live_10 : decode mS_live.2.1 10 = .ok (.if_icmp .ge 24, 3) := by decide +kernel
theorem kS_live_13 : decode mS_live.2.1 13 = .ok (.aload_n 0, 1) := by decide +kernel
theorem kS_live_14 : decode mS_live.2.1 14 = .ok (.getfield 20, 3) := by decide +kernel
theorem kS_live_17 : decode mS_live.2.1 17 = .ok (.iload_n 2, 1) := by decide +kernel
theorem kS_live_18 : decode mS_live.2.1 18 = .ok (.aaload, 1) := by decide +kernel
theorem kS_live_19 : decode mS_live.2.1 19 = .ok (.getfield 89, 3) := by decide +kernel
theorem kS_live_22 : decode mS_live.2.1 22 = .ok (.ifCond .eq 6, 3) := by decide +kernel
theorem kS_live_25 : decode mS_live.2.1 25 = .ok (.iinc 1 1, 3) := by decide +kernel
theorem kS_live_28 : decode mS_live.2.1 28 = .ok (.iinc 2 1, 3) := by decide +kernel
theorem kS_live_31 : decode mS_live.2.1 31 = .ok (.goto (-27), 3) := by decide +kernel
theorem kS_live_34 : decode mS_live.2.1 34 = .ok (.iload_n 1, 1) := by decide +kernel
theorem kS_live_35 : decode mS_live.2.1 35 = .ok (.ireturn, 1) := by decide +kernel
theorem kS_start_0 : decode mS_start.2.1 0 = .ok (.aload_n 0, 1) := by decide +kernel
theorem kS_start_1 : decode mS_start.2.1 1 = .ok (.iload_n 1, 1) := by decide +kernel
theorem kS_start_2 : decode mS_start.2.1 2 = .ok (.invokevirtual 46, 3) := by decide +kernel
theorem kS_start_5 : decode mS_start.2.1 5 = .ok (.getfield 57, 3) := by decide +kernel
theorem kS_start_8 : decode mS_start.2.1 8 = .ok (.ireturn, 1) := by decide +kernel
theorem kS_versions_0 : decode mS_versions.2.1 0 = .ok (.iload_n 1, 1) := by decide +kernel
theorem kS_versions_1 : decode mS_versions.2.1 1 = .ok (.invokestatic 50, 3) := by decide +kernel
theorem kS_versions_4 : decode mS_versions.2.1 4 = .ok (.iconst 0, 1) := by decide +kernel
theorem kS_versions_5 : decode mS_versions.2.1 5 = .ok (.istore_n 2, 1) := by decide +kernel
theorem kS_versions_6 : decode mS_versions.2.1 6 = .ok (.iconst 0, 1) := by decide +kernel
theorem kS_versions_7 : decode mS_versions.2.1 7 = .ok (.istore_n 3, 1) := by decide +kernel
theorem kS_versions_8 : decode mS_versions.2.1 8 = .ok (.iload_n 3, 1) := by decide +kernel
theorem kS_versions_9 : decode mS_versions.2.1 9 = .ok (.aload_n 0, 1) := by decide +kernel
theorem kS_versions_10 : decode mS_versions.2.1 10 = .ok (.getfield 14, 3) := by decide +kernel
theorem kS_versions_13 : decode mS_versions.2.1 13 = .ok (.getfield 84, 3) := by decide +kernel
theorem kS_versions_16 : decode mS_versions.2.1 16 = .ok (.if_icmp .ge 25, 3) := by decide +kernel
theorem kS_versions_19 : decode mS_versions.2.1 19 = .ok (.aload_n 0, 1) := by decide +kernel
theorem kS_versions_20 : decode mS_versions.2.1 20 = .ok (.getfield 14, 3) := by decide +kernel
theorem kS_versions_23 : decode mS_versions.2.1 23 = .ok (.getfield 117, 3) := by decide +kernel
theorem kS_versions_26 : decode mS_versions.2.1 26 = .ok (.iload_n 3, 1) := by decide +kernel
theorem kS_versions_27 : decode mS_versions.2.1 27 = .ok (.iaload, 1) := by decide +kernel
theorem kS_versions_28 : decode mS_versions.2.1 28 = .ok (.iload_n 1, 1) := by decide +kernel
theorem kS_versions_29 : decode mS_versions.2.1 29 = .ok (.if_icmp .ne 6, 3) := by decide +kernel
theorem kS_versions_32 : decode mS_versions.2.1 32 = .ok (.iinc 2 1, 3) := by decide +kernel
theorem kS_versions_35 : decode mS_versions.2.1 35 = .ok (.iinc 3 1, 3) := by decide +kernel
theorem kS_versions_38 : decode mS_versions.2.1 38 = .ok (.goto (-30), 3) := by decide +kernel
theorem kS_versions_41 : decode mS_versions.2.1 41 = .ok (.iload_n 2, 1) := by decide +kernel
theorem kS_versions_42 : decode mS_versions.2.1 42 = .ok (.ireturn, 1) := by decide +kernel
theorem kS_timeOf_0 : decode mS_timeOf.2.1 0 = .ok (.iload_n 1, 1) := by decide +kernel
theorem kS_timeOf_1 : decode mS_timeOf.2.1 1 = .ok (.invokestatic 50, 3) := by decide +kernel
theorem kS_timeOf_4 : decode mS_timeOf.2.1 4 = .ok (.aload_n 0, 1) := by decide +kernel
theorem kS_timeOf_5 : decode mS_timeOf.2.1 5 = .ok (.getfield 14, 3) := by decide +kernel
theorem kS_timeOf_8 : decode mS_timeOf.2.1 8 = .ok (.iload_n 1, 1) := by decide +kernel
theorem kS_timeOf_9 : decode mS_timeOf.2.1 9 = .ok (.iload_n 2, 1) := by decide +kernel
theorem kS_timeOf_10 : decode mS_timeOf.2.1 10 = .ok (.invokevirtual 121, 3) := by decide +kernel
theorem kS_timeOf_13 : decode mS_timeOf.2.1 13 = .ok (.istore_n 3, 1) := by decide +kernel
theorem kS_timeOf_14 : decode mS_timeOf.2.1 14 = .ok (.iload_n 3, 1) := by decide +kernel
theorem kS_timeOf_15 : decode mS_timeOf.2.1 15 = .ok (.iconst (-1), 1) := by decide +kernel
theorem kS_timeOf_16 : decode mS_timeOf.2.1 16 = .ok (.if_icmp .ne 13, 3) := by decide +kernel
theorem kS_timeOf_19 : decode mS_timeOf.2.1 19 = .ok (.new 64, 3) := by decide +kernel
theorem kS_timeOf_22 : decode mS_timeOf.2.1 22 = .ok (.dup, 1) := by decide +kernel
theorem kS_timeOf_23 : decode mS_timeOf.2.1 23 = .ok (.ldc 124, 2) := by decide +kernel
theorem kS_timeOf_25 : decode mS_timeOf.2.1 25 = .ok (.invokespecial 68, 3) := by decide +kernel
theorem kS_timeOf_28 : decode mS_timeOf.2.1 28 = .ok (.athrow, 1) := by decide +kernel
theorem kS_timeOf_29 : decode mS_timeOf.2.1 29 = .ok (.aload_n 0, 1) := by decide +kernel
theorem kS_timeOf_30 : decode mS_timeOf.2.1 30 = .ok (.getfield 14, 3) := by decide +kernel
theorem kS_timeOf_33 : decode mS_timeOf.2.1 33 = .ok (.getfield 126, 3) := by decide +kernel
theorem kS_timeOf_36 : decode mS_timeOf.2.1 36 = .ok (.iload_n 3, 1) := by decide +kernel
theorem kS_timeOf_37 : decode mS_timeOf.2.1 37 = .ok (.iaload, 1) := by decide +kernel
theorem kS_timeOf_38 : decode mS_timeOf.2.1 38 = .ok (.ireturn, 1) := by decide +kernel
theorem kS_valueOf_0 : decode mS_valueOf.2.1 0 = .ok (.iload_n 1, 1) := by decide +kernel
theorem kS_valueOf_1 : decode mS_valueOf.2.1 1 = .ok (.invokestatic 50, 3) := by decide +kernel
theorem kS_valueOf_4 : decode mS_valueOf.2.1 4 = .ok (.aload_n 0, 1) := by decide +kernel
theorem kS_valueOf_5 : decode mS_valueOf.2.1 5 = .ok (.getfield 14, 3) := by decide +kernel
theorem kS_valueOf_8 : decode mS_valueOf.2.1 8 = .ok (.iload_n 1, 1) := by decide +kernel
theorem kS_valueOf_9 : decode mS_valueOf.2.1 9 = .ok (.iload_n 2, 1) := by decide +kernel
theorem kS_valueOf_10 : decode mS_valueOf.2.1 10 = .ok (.invokevirtual 121, 3) := by decide +kernel
theorem kS_valueOf_13 : decode mS_valueOf.2.1 13 = .ok (.istore_n 3, 1) := by decide +kernel
theorem kS_valueOf_14 : decode mS_valueOf.2.1 14 = .ok (.iload_n 3, 1) := by decide +kernel
theorem kS_valueOf_15 : decode mS_valueOf.2.1 15 = .ok (.iconst (-1), 1) := by decide +kernel
theorem kS_valueOf_16 : decode mS_valueOf.2.1 16 = .ok (.if_icmp .eq 15, 3) := by decide +kernel
theorem kS_valueOf_19 : decode mS_valueOf.2.1 19 = .ok (.aload_n 0, 1) := by decide +kernel
theorem kS_valueOf_20 : decode mS_valueOf.2.1 20 = .ok (.getfield 14, 3) := by decide +kernel
theorem kS_valueOf_23 : decode mS_valueOf.2.1 23 = .ok (.getfield 129, 3) := by decide +kernel
theorem kS_valueOf_26 : decode mS_valueOf.2.1 26 = .ok (.iload_n 3, 1) := by decide +kernel
theorem kS_valueOf_27 : decode mS_valueOf.2.1 27 = .ok (.baload, 1) := by decide +kernel
theorem kS_valueOf_28 : decode mS_valueOf.2.1 28 = .ok (.ifCond .eq 13, 3) := by decide +kernel
theorem kS_valueOf_31 : decode mS_valueOf.2.1 31 = .ok (.new 64, 3) := by decide +kernel
theorem kS_valueOf_34 : decode mS_valueOf.2.1 34 = .ok (.dup, 1) := by decide +kernel
theorem kS_valueOf_35 : decode mS_valueOf.2.1 35 = .ok (.ldc 133, 2) := by decide +kernel
theorem kS_valueOf_37 : decode mS_valueOf.2.1 37 = .ok (.invokespecial 68, 3) := by decide +kernel
theorem kS_valueOf_40 : decode mS_valueOf.2.1 40 = .ok (.athrow, 1) := by decide +kernel
theorem kS_valueOf_41 : decode mS_valueOf.2.1 41 = .ok (.aload_n 0, 1) := by decide +kernel
theorem kS_valueOf_42 : decode mS_valueOf.2.1 42 = .ok (.getfield 14, 3) := by decide +kernel
theorem kS_valueOf_45 : decode mS_valueOf.2.1 45 = .ok (.getfield 69, 3) := by decide +kernel
theorem kS_valueOf_48 : decode mS_valueOf.2.1 48 = .ok (.iload_n 3, 1) := by decide +kernel
theorem kS_valueOf_49 : decode mS_valueOf.2.1 49 = .ok (.laload, 1) := by decide +kernel
theorem kS_valueOf_50 : decode mS_valueOf.2.1 50 = .ok (.lreturn, 1) := by decide +kernel
theorem kS_enter_0 : decode mS_enter.2.1 0 = .ok (.iconst 0, 1) := by decide +kernel
theorem kS_enter_1 : decode mS_enter.2.1 1 = .ok (.istore_n 2, 1) := by decide +kernel
theorem kS_enter_2 : decode mS_enter.2.1 2 = .ok (.iload_n 2, 1) := by decide +kernel
theorem kS_enter_3 : decode mS_enter.2.1 3 = .ok (.aload_n 0, 1) := by decide +kernel
theorem kS_enter_4 : decode mS_enter.2.1 4 = .ok (.getfield 20, 3) := by decide +kernel
theorem kS_enter_7 : decode mS_enter.2.1 7 = .ok (.arraylength, 1) := by decide +kernel
theorem kS_enter_8 : decode mS_enter.2.1 8 = .ok (.if_icmp .ge 55, 3) := by decide +kernel
theorem kS_enter_11 : decode mS_enter.2.1 11 = .ok (.aload_n 0, 1) := by decide +kernel
theorem kS_enter_12 : decode mS_enter.2.1 12 = .ok (.getfield 20, 3) := by decide +kernel
theorem kS_enter_15 : decode mS_enter.2.1 15 = .ok (.iload_n 2, 1) := by decide +kernel
theorem kS_enter_16 : decode mS_enter.2.1 16 = .ok (.aaload, 1) := by decide +kernel
theorem kS_enter_17 : decode mS_enter.2.1 17 = .ok (.getfield 89, 3) := by decide +kernel
theorem kS_enter_20 : decode mS_enter.2.1 20 = .ok (.ifCond .ne 37, 3) := by decide +kernel
theorem kS_enter_23 : decode mS_enter.2.1 23 = .ok (.aload_n 0, 1) := by decide +kernel
theorem kS_enter_24 : decode mS_enter.2.1 24 = .ok (.getfield 20, 3) := by decide +kernel
theorem kS_enter_27 : decode mS_enter.2.1 27 = .ok (.iload_n 2, 1) := by decide +kernel
theorem kS_enter_28 : decode mS_enter.2.1 28 = .ok (.aaload, 1) := by decide +kernel
theorem kS_enter_29 : decode mS_enter.2.1 29 = .ok (.aload_n 0, 1) := by decide +kernel
theorem kS_enter_30 : decode mS_enter.2.1 30 = .ok (.getfield 31, 3) := by decide +kernel
theorem kS_enter_33 : decode mS_enter.2.1 33 = .ok (.iload_n 1, 1) := by decide +kernel
theorem kS_enter_34 : decode mS_enter.2.1 34 = .ok (.invokevirtual 135, 3) := by decide +kernel
theorem kS_enter_37 : decode mS_enter.2.1 37 = .ok (.aload_n 0, 1) := by decide +kernel
theorem kS_enter_38 : decode mS_enter.2.1 38 = .ok (.dup, 1) := by decide +kernel
theorem kS_enter_39 : decode mS_enter.2.1 39 = .ok (.getfield 31, 3) := by decide +kernel
theorem kS_enter_42 : decode mS_enter.2.1 42 = .ok (.iconst 1, 1) := by decide +kernel
theorem kS_enter_43 : decode mS_enter.2.1 43 = .ok (.iadd, 1) := by decide +kernel
theorem kS_enter_44 : decode mS_enter.2.1 44 = .ok (.putfield 31, 3) := by decide +kernel
theorem kS_enter_47 : decode mS_enter.2.1 47 = .ok (.aload_n 0, 1) := by decide +kernel
theorem kS_enter_48 : decode mS_enter.2.1 48 = .ok (.getfield 20, 3) := by decide +kernel
theorem kS_enter_51 : decode mS_enter.2.1 51 = .ok (.iload_n 2, 1) := by decide +kernel
theorem kS_enter_52 : decode mS_enter.2.1 52 = .ok (.aaload, 1) := by decide +kernel
theorem kS_enter_53 : decode mS_enter.2.1 53 = .ok (.getfield 139, 3) := by decide +kernel
theorem kS_enter_56 : decode mS_enter.2.1 56 = .ok (.ireturn, 1) := by decide +kernel
theorem kS_enter_57 : decode mS_enter.2.1 57 = .ok (.iinc 2 1, 3) := by decide +kernel
theorem kS_enter_60 : decode mS_enter.2.1 60 = .ok (.goto (-58), 3) := by decide +kernel
theorem kS_enter_63 : decode mS_enter.2.1 63 = .ok (.new 101, 3) := by decide +kernel
theorem kS_enter_66 : decode mS_enter.2.1 66 = .ok (.dup, 1) := by decide +kernel
theorem kS_enter_67 : decode mS_enter.2.1 67 = .ok (.ldc 142, 2) := by decide +kernel
theorem kS_enter_69 : decode mS_enter.2.1 69 = .ok (.invokespecial 105, 3) := by decide +kernel
theorem kS_enter_72 : decode mS_enter.2.1 72 = .ok (.athrow, 1) := by decide +kernel
theorem kS_liveTransaction_0 : decode mS_liveTransaction.2.1 0 = .ok (.iconst 0, 1) := by decide +kernel
theorem kS_liveTransaction_1 : decode mS_liveTransaction.2.1 1 = .ok (.istore_n 2, 1) := by decide +kernel
theorem kS_liveTransaction_2 : decode mS_liveTransaction.2.1 2 = .ok (.iload_n 2, 1) := by decide +kernel
theorem kS_liveTransaction_3 : decode mS_liveTransaction.2.1 3 = .ok (.aload_n 0, 1) := by decide +kernel
theorem kS_liveTransaction_4 : decode mS_liveTransaction.2.1 4 = .ok (.getfield 20, 3) := by decide +kernel
theorem kS_liveTransaction_7 : decode mS_liveTransaction.2.1 7 = .ok (.arraylength, 1) := by decide +kernel
theorem kS_liveTransaction_8 : decode mS_liveTransaction.2.1 8 = .ok (.if_icmp .ge 41, 3) := by decide +kernel
theorem kS_liveTransaction_11 : decode mS_liveTransaction.2.1 11 = .ok (.aload_n 0, 1) := by decide +kernel
theorem kS_liveTransaction_12 : decode mS_liveTransaction.2.1 12 = .ok (.getfield 20, 3) := by decide +kernel
theorem kS_liveTransaction_15 : decode mS_liveTransaction.2.1 15 = .ok (.iload_n 2, 1) := by decide +kernel
theorem kS_liveTransaction_16 : decode mS_liveTransaction.2.1 16 = .ok (.aaload, 1) := by decide +kernel
theorem kS_liveTransaction_17 : decode mS_liveTransaction.2.1 17 = .ok (.getfield 89, 3) := by decide +kernel
theorem kS_liveTransaction_20 : decode mS_liveTransaction.2.1 20 = .ok (.ifCond .eq 23, 3) := by decide +kernel
theorem kS_liveTransaction_23 : decode mS_liveTransaction.2.1 23 = .ok (.aload_n 0, 1) := by decide +kernel
theorem kS_liveTransaction_24 : decode mS_liveTransaction.2.1 24 = .ok (.getfield 20, 3) := by decide +kernel
theorem kS_liveTransaction_27 : decode mS_liveTransaction.2.1 27 = .ok (.iload_n 2, 1) := by decide +kernel
theorem kS_liveTransaction_28 : decode mS_liveTransaction.2.1 28 = .ok (.aaload, 1) := by decide +kernel
theorem kS_liveTransaction_29 : decode mS_liveTransaction.2.1 29 = .ok (.getfield 139, 3) := by decide +kernel
theorem kS_liveTransaction_32 : decode mS_liveTransaction.2.1 32 = .ok (.iload_n 1, 1) := by decide +kernel
theorem kS_liveTransaction_33 : decode mS_liveTransaction.2.1 33 = .ok (.if_icmp .ne 10, 3) := by decide +kernel
theorem kS_liveTransaction_36 : decode mS_liveTransaction.2.1 36 = .ok (.aload_n 0, 1) := by decide +kernel
theorem kS_liveTransaction_37 : decode mS_liveTransaction.2.1 37 = .ok (.getfield 20, 3) := by decide +kernel
theorem kS_liveTransaction_40 : decode mS_liveTransaction.2.1 40 = .ok (.iload_n 2, 1) := by decide +kernel
theorem kS_liveTransaction_41 : decode mS_liveTransaction.2.1 41 = .ok (.aaload, 1) := by decide +kernel
theorem kS_liveTransaction_42 : decode mS_liveTransaction.2.1 42 = .ok (.areturn, 1) := by decide +kernel
theorem kS_liveTransaction_43 : decode mS_liveTransaction.2.1 43 = .ok (.iinc 2 1, 3) := by decide +kernel
theorem kS_liveTransaction_46 : decode mS_liveTransaction.2.1 46 = .ok (.goto (-44), 3) := by decide +kernel
theorem kS_liveTransaction_49 : decode mS_liveTransaction.2.1 49 = .ok (.new 144, 3) := by decide +kernel
theorem kS_liveTransaction_52 : decode mS_liveTransaction.2.1 52 = .ok (.dup, 1) := by decide +kernel
theorem kS_liveTransaction_53 : decode mS_liveTransaction.2.1 53 = .ok (.ldc 146, 2) := by decide +kernel
theorem kS_liveTransaction_55 : decode mS_liveTransaction.2.1 55 = .ok (.invokespecial 148, 3) := by decide +kernel
theorem kS_liveTransaction_58 : decode mS_liveTransaction.2.1 58 = .ok (.athrow, 1) := by decide +kernel
theorem kS_checkKey_0 : decode mS_checkKey.2.1 0 = .ok (.iload_n 0, 1) := by decide +kernel
theorem kS_checkKey_1 : decode mS_checkKey.2.1 1 = .ok (.ifCond .lt 9, 3) := by decide +kernel
theorem kS_checkKey_4 : decode mS_checkKey.2.1 4 = .ok (.iload_n 0, 1) := by decide +kernel
theorem kS_checkKey_5 : decode mS_checkKey.2.1 5 = .ok (.bipush 16, 2) := by decide +kernel
theorem kS_checkKey_7 : decode mS_checkKey.2.1 7 = .ok (.if_icmp .lt 13, 3) := by decide +kernel
theorem kS_checkKey_10 : decode mS_checkKey.2.1 10 = .ok (.new 39, 3) := by decide +kernel
theorem kS_checkKey_13 : decode mS_checkKey.2.1 13 = .ok (.dup, 1) := by decide +kernel
theorem kS_checkKey_14 : decode mS_checkKey.2.1 14 = .ok (.ldc 149, 2) := by decide +kernel
theorem kS_checkKey_16 : decode mS_checkKey.2.1 16 = .ok (.invokespecial 43, 3) := by decide +kernel
theorem kS_checkKey_19 : decode mS_checkKey.2.1 19 = .ok (.athrow, 1) := by decide +kernel
theorem kS_checkKey_20 : decode mS_checkKey.2.1 20 = .ok (.return_, 1) := by decide +kernel
theorem kS_addWrite_0 : decode mS_addWrite.2.1 0 = .ok (.aload_n 0, 1) := by decide +kernel
theorem kS_addWrite_1 : decode mS_addWrite.2.1 1 = .ok (.getfield 81, 3) := by decide +kernel
theorem kS_addWrite_4 : decode mS_addWrite.2.1 4 = .ok (.iload_n 1, 1) := by decide +kernel
theorem kS_addWrite_5 : decode mS_addWrite.2.1 5 = .ok (.aload_n 0, 1) := by decide +kernel
theorem kS_addWrite_6 : decode mS_addWrite.2.1 6 = .ok (.getfield 57, 3) := by decide +kernel
theorem kS_addWrite_9 : decode mS_addWrite.2.1 9 = .ok (.lload_n 2, 1) := by decide +kernel
theorem kS_addWrite_10 : decode mS_addWrite.2.1 10 = .ok (.iload 4, 2) := by decide +kernel
theorem kS_addWrite_12 : decode mS_addWrite.2.1 12 = .ok (.invokevirtual 151, 3) := by decide +kernel
theorem kS_addWrite_15 : decode mS_addWrite.2.1 15 = .ok (.ifCond .ne 13, 3) := by decide +kernel
theorem kS_addWrite_18 : decode mS_addWrite.2.1 18 = .ok (.new 101, 3) := by decide +kernel
theorem kS_addWrite_21 : decode mS_addWrite.2.1 21 = .ok (.dup, 1) := by decide +kernel
theorem kS_addWrite_22 : decode mS_addWrite.2.1 22 = .ok (.ldc 155, 2) := by decide +kernel
theorem kS_addWrite_24 : decode mS_addWrite.2.1 24 = .ok (.invokespecial 105, 3) := by decide +kernel
theorem kS_addWrite_27 : decode mS_addWrite.2.1 27 = .ok (.athrow, 1) := by decide +kernel
theorem kS_addWrite_28 : decode mS_addWrite.2.1 28 = .ok (.return_, 1) := by decide +kernel
theorem kS_rowToRead_0 : decode mS_rowToRead.2.1 0 = .ok (.aload_n 1, 1) := by decide +kernel
theorem kS_rowToRead_1 : decode mS_rowToRead.2.1 1 = .ok (.getfield 81, 3) := by decide +kernel
theorem kS_rowToRead_4 : decode mS_rowToRead.2.1 4 = .ok (.iload_n 2, 1) := by decide +kernel
theorem kS_rowToRead_5 : decode mS_rowToRead.2.1 5 = .ok (.aload_n 1, 1) := by decide +kernel
theorem kS_rowToRead_6 : decode mS_rowToRead.2.1 6 = .ok (.getfield 57, 3) := by decide +kernel
theorem kS_rowToRead_9 : decode mS_rowToRead.2.1 9 = .ok (.invokevirtual 157, 3) := by decide +kernel
theorem kS_rowToRead_12 : decode mS_rowToRead.2.1 12 = .ok (.iconst (-1), 1) := by decide +kernel
theorem kS_rowToRead_13 : decode mS_rowToRead.2.1 13 = .ok (.if_icmp .ne 10, 3) := by decide +kernel
theorem kS_rowToRead_16 : decode mS_rowToRead.2.1 16 = .ok (.aload_n 0, 1) := by decide +kernel
theorem kS_rowToRead_17 : decode mS_rowToRead.2.1 17 = .ok (.getfield 14, 3) := by decide +kernel
theorem kS_rowToRead_20 : decode mS_rowToRead.2.1 20 = .ok (.goto 7, 3) := by decide +kernel
theorem kS_rowToRead_23 : decode mS_rowToRead.2.1 23 = .ok (.aload_n 1, 1) := by decide +kernel
theorem kS_rowToRead_24 : decode mS_rowToRead.2.1 24 = .ok (.getfield 81, 3) := by decide +kernel
theorem kS_rowToRead_27 : decode mS_rowToRead.2.1 27 = .ok (.areturn, 1) := by decide +kernel
theorem kS_findsSomething_0 : decode mS_findsSomething.2.1 0 = .ok (.aload_n 0, 1) := by decide +kernel
theorem kS_findsSomething_1 : decode mS_findsSomething.2.1 1 = .ok (.aload_n 1, 1) := by decide +kernel
theorem kS_findsSomething_2 : decode mS_findsSomething.2.1 2 = .ok (.iload_n 2, 1) := by decide +kernel
theorem kS_findsSomething_3 : decode mS_findsSomething.2.1 3 = .ok (.invokevirtual 53, 3) := by decide +kernel
theorem kS_findsSomething_6 : decode mS_findsSomething.2.1 6 = .ok (.iload_n 2, 1) := by decide +kernel
theorem kS_findsSomething_7 : decode mS_findsSomething.2.1 7 = .ok (.aload_n 1, 1) := by decide +kernel
theorem kS_findsSomething_8 : decode mS_findsSomething.2.1 8 = .ok (.getfield 57, 3) := by decide +kernel
theorem kS_findsSomething_11 : decode mS_findsSomething.2.1 11 = .ok (.invokevirtual 60, 3) := by decide +kernel
theorem kS_findsSomething_14 : decode mS_findsSomething.2.1 14 = .ok (.iconst (-1), 1) := by decide +kernel
theorem kS_findsSomething_15 : decode mS_findsSomething.2.1 15 = .ok (.if_icmp .eq 7, 3) := by decide +kernel
theorem kS_findsSomething_18 : decode mS_findsSomething.2.1 18 = .ok (.iconst 1, 1) := by decide +kernel
theorem kS_findsSomething_19 : decode mS_findsSomething.2.1 19 = .ok (.goto 4, 3) := by decide +kernel
theorem kS_findsSomething_22 : decode mS_findsSomething.2.1 22 = .ok (.iconst 0, 1) := by decide +kernel
theorem kS_findsSomething_23 : decode mS_findsSomething.2.1 23 = .ok (.ireturn, 1) := by decide +kernel
theorem kS_isOutrun_0 : decode mS_isOutrun.2.1 0 = .ok (.iconst 0, 1) := by decide +kernel
theorem kS_isOutrun_1 : decode mS_isOutrun.2.1 1 = .ok (.istore_n 2, 1) := by decide +kernel
theorem kS_isOutrun_2 : decode mS_isOutrun.2.1 2 = .ok (.iload_n 2, 1) := by decide +kernel
theorem kS_isOutrun_3 : decode mS_isOutrun.2.1 3 = .ok (.aload_n 0, 1) := by decide +kernel
theorem kS_isOutrun_4 : decode mS_isOutrun.2.1 4 = .ok (.getfield 14, 3) := by decide +kernel
theorem kS_isOutrun_7 : decode mS_isOutrun.2.1 7 = .ok (.getfield 84, 3) := by decide +kernel
theorem kS_isOutrun_10 : decode mS_isOutrun.2.1 10 = .ok (.if_icmp .ge 51, 3) := by decide +kernel
theorem kS_isOutrun_13 : decode mS_isOutrun.2.1 13 = .ok (.aload_n 0, 1) := by decide +kernel
theorem kS_isOutrun_14 : decode mS_isOutrun.2.1 14 = .ok (.getfield 14, 3) := by decide +kernel
theorem kS_isOutrun_17 : decode mS_isOutrun.2.1 17 = .ok (.getfield 126, 3) := by decide +kernel
theorem kS_isOutrun_20 : decode mS_isOutrun.2.1 20 = .ok (.iload_n 2, 1) := by decide +kernel
theorem kS_isOutrun_21 : decode mS_isOutrun.2.1 21 = .ok (.iaload, 1) := by decide +kernel
theorem kS_isOutrun_22 : decode mS_isOutrun.2.1 22 = .ok (.aload_n 1, 1) := by decide +kernel
theorem kS_isOutrun_23 : decode mS_isOutrun.2.1 23 = .ok (.getfield 57, 3) := by decide +kernel
theorem kS_isOutrun_26 : decode mS_isOutrun.2.1 26 = .ok (.if_icmp .le 29, 3) := by decide +kernel
theorem kS_isOutrun_29 : decode mS_isOutrun.2.1 29 = .ok (.aload_n 1, 1) := by decide +kernel
theorem kS_isOutrun_30 : decode mS_isOutrun.2.1 30 = .ok (.getfield 81, 3) := by decide +kernel
theorem kS_isOutrun_33 : decode mS_isOutrun.2.1 33 = .ok (.aload_n 0, 1) := by decide +kernel
theorem kS_isOutrun_34 : decode mS_isOutrun.2.1 34 = .ok (.getfield 14, 3) := by decide +kernel
theorem kS_isOutrun_37 : decode mS_isOutrun.2.1 37 = .ok (.getfield 117, 3) := by decide +kernel
theorem kS_isOutrun_40 : decode mS_isOutrun.2.1 40 = .ok (.iload_n 2, 1) := by decide +kernel
theorem kS_isOutrun_41 : decode mS_isOutrun.2.1 41 = .ok (.iaload, 1) := by decide +kernel
theorem kS_isOutrun_42 : decode mS_isOutrun.2.1 42 = .ok (.aload_n 1, 1) := by decide +kernel
theorem kS_isOutrun_43 : decode mS_isOutrun.2.1 43 = .ok (.getfield 57, 3) := by decide +kernel
theorem kS_isOutrun_46 : decode mS_isOutrun.2.1 46 = .ok (.invokevirtual 157, 3) := by decide +kernel
theorem kS_isOutrun_49 : decode mS_isOutrun.2.1 49 = .ok (.iconst (-1), 1) := by decide +kernel
theorem kS_isOutrun_50 : decode mS_isOutrun.2.1 50 = .ok (.if_icmp .eq 5, 3) := by decide +kernel
theorem kS_isOutrun_53 : decode mS_isOutrun.2.1 53 = .ok (.iconst 1, 1) := by decide +kernel
theorem kS_isOutrun_54 : decode mS_isOutrun.2.1 54 = .ok (.ireturn, 1) := by decide +kernel
theorem kS_isOutrun_55 : decode mS_isOutrun.2.1 55 = .ok (.iinc 2 1, 3) := by decide +kernel
theorem kS_isOutrun_58 : decode mS_isOutrun.2.1 58 = .ok (.goto (-56), 3) := by decide +kernel
theorem kS_isOutrun_61 : decode mS_isOutrun.2.1 61 = .ok (.iconst 0, 1) := by decide +kernel
theorem kS_isOutrun_62 : decode mS_isOutrun.2.1 62 = .ok (.ireturn, 1) := by decide +kernel
theorem kS_keysWritten_0 : decode mS_keysWritten.2.1 0 = .ok (.iconst 0, 1) := by decide +kernel
theorem kS_keysWritten_1 : decode mS_keysWritten.2.1 1 = .ok (.istore_n 1, 1) := by decide +kernel
theorem kS_keysWritten_2 : decode mS_keysWritten.2.1 2 = .ok (.iconst 0, 1) := by decide +kernel
theorem kS_keysWritten_3 : decode mS_keysWritten.2.1 3 = .ok (.istore_n 2, 1) := by decide +kernel
theorem kS_keysWritten_4 : decode mS_keysWritten.2.1 4 = .ok (.iload_n 2, 1) := by decide +kernel
theorem kS_keysWritten_5 : decode mS_keysWritten.2.1 5 = .ok (.aload_n 0, 1) := by decide +kernel
theorem kS_keysWritten_6 : decode mS_keysWritten.2.1 6 = .ok (.getfield 81, 3) := by decide +kernel
theorem kS_keysWritten_9 : decode mS_keysWritten.2.1 9 = .ok (.getfield 84, 3) := by decide +kernel
theorem kS_keysWritten_12 : decode mS_keysWritten.2.1 12 = .ok (.if_icmp .ge 20, 3) := by decide +kernel
theorem kS_keysWritten_15 : decode mS_keysWritten.2.1 15 = .ok (.aload_n 0, 1) := by decide +kernel
theorem kS_keysWritten_16 : decode mS_keysWritten.2.1 16 = .ok (.iload_n 2, 1) := by decide +kernel
theorem kS_keysWritten_17 : decode mS_keysWritten.2.1 17 = .ok (.invokevirtual 160, 3) := by decide +kernel
theorem kS_keysWritten_20 : decode mS_keysWritten.2.1 20 = .ok (.ifCond .eq 6, 3) := by decide +kernel
theorem kS_keysWritten_23 : decode mS_keysWritten.2.1 23 = .ok (.iinc 1 1, 3) := by decide +kernel
theorem kS_keysWritten_26 : decode mS_keysWritten.2.1 26 = .ok (.iinc 2 1, 3) := by decide +kernel
theorem kS_keysWritten_29 : decode mS_keysWritten.2.1 29 = .ok (.goto (-25), 3) := by decide +kernel
theorem kS_keysWritten_32 : decode mS_keysWritten.2.1 32 = .ok (.iload_n 1, 1) := by decide +kernel
theorem kS_keysWritten_33 : decode mS_keysWritten.2.1 33 = .ok (.ireturn, 1) := by decide +kernel
theorem kS_shelveWrites_0 : decode mS_shelveWrites.2.1 0 = .ok (.aload_n 1, 1) := by decide +kernel
theorem kS_shelveWrites_1 : decode mS_shelveWrites.2.1 1 = .ok (.getfield 81, 3) := by decide +kernel
theorem kS_shelveWrites_4 : decode mS_shelveWrites.2.1 4 = .ok (.astore_n 2, 1) := by decide +kernel
theorem kS_shelveWrites_5 : decode mS_shelveWrites.2.1 5 = .ok (.iconst 0, 1) := by decide +kernel
theorem kS_shelveWrites_6 : decode mS_shelveWrites.2.1 6 = .ok (.istore_n 3, 1) := by decide +kernel
theorem kS_shelveWrites_7 : decode mS_shelveWrites.2.1 7 = .ok (.iload_n 3, 1) := by decide +kernel
theorem kS_shelveWrites_8 : decode mS_shelveWrites.2.1 8 = .ok (.aload_n 2, 1) := by decide +kernel
theorem kS_shelveWrites_9 : decode mS_shelveWrites.2.1 9 = .ok (.getfield 84, 3) := by decide +kernel
theorem kS_shelveWrites_12 : decode mS_shelveWrites.2.1 12 = .ok (.if_icmp .ge 47, 3) := by decide +kernel
theorem kS_shelveWrites_15 : decode mS_shelveWrites.2.1 15 = .ok (.aload_n 1, 1) := by decide +kernel
theorem kS_shelveWrites_16 : decode mS_shelveWrites.2.1 16 = .ok (.iload_n 3, 1) := by decide +kernel
theorem kS_shelveWrites_17 : decode mS_shelveWrites.2.1 17 = .ok (.invokevirtual 160, 3) := by decide +kernel
theorem kS_shelveWrites_20 : decode mS_shelveWrites.2.1 20 = .ok (.ifCond .eq 33, 3) := by decide +kernel
theorem kS_shelveWrites_23 : decode mS_shelveWrites.2.1 23 = .ok (.aload_n 0, 1) := by decide +kernel
theorem kS_shelveWrites_24 : decode mS_shelveWrites.2.1 24 = .ok (.getfield 14, 3) := by decide +kernel
theorem kS_shelveWrites_27 : decode mS_shelveWrites.2.1 27 = .ok (.aload_n 2, 1) := by decide +kernel
theorem kS_shelveWrites_28 : decode mS_shelveWrites.2.1 28 = .ok (.getfield 117, 3) := by decide +kernel
theorem kS_shelveWrites_31 : decode mS_shelveWrites.2.1 31 = .ok (.iload_n 3, 1) := by decide +kernel
theorem kS_shelveWrites_32 : decode mS_shelveWrites.2.1 32 = .ok (.iaload, 1) := by decide +kernel
theorem kS_shelveWrites_33 : decode mS_shelveWrites.2.1 33 = .ok (.aload_n 0, 1) := by decide +kernel
theorem kS_shelveWrites_34 : decode mS_shelveWrites.2.1 34 = .ok (.getfield 24, 3) := by decide +kernel
theorem kS_shelveWrites_37 : decode mS_shelveWrites.2.1 37 = .ok (.aload_n 2, 1) := by decide +kernel
theorem kS_shelveWrites_38 : decode mS_shelveWrites.2.1 38 = .ok (.getfield 69, 3) := by decide +kernel
theorem kS_shelveWrites_41 : decode mS_shelveWrites.2.1 41 = .ok (.iload_n 3, 1) := by decide +kernel
theorem kS_shelveWrites_42 : decode mS_shelveWrites.2.1 42 = .ok (.laload, 1) := by decide +kernel
theorem kS_shelveWrites_43 : decode mS_shelveWrites.2.1 43 = .ok (.aload_n 2, 1) := by decide +kernel
theorem kS_shelveWrites_44 : decode mS_shelveWrites.2.1 44 = .ok (.getfield 129, 3) := by decide +kernel
theorem kS_shelveWrites_47 : decode mS_shelveWrites.2.1 47 = .ok (.iload_n 3, 1) := by decide +kernel
theorem kS_shelveWrites_48 : decode mS_shelveWrites.2.1 48 = .ok (.baload, 1) := by decide +kernel
theorem kS_shelveWrites_49 : decode mS_shelveWrites.2.1 49 = .ok (.invokevirtual 151, 3) := by decide +kernel
theorem kS_shelveWrites_52 : decode mS_shelveWrites.2.1 52 = .ok (.pop, 1) := by decide +kernel
theorem kS_shelveWrites_53 : decode mS_shelveWrites.2.1 53 = .ok (.iinc 3 1, 3) := by decide +kernel
theorem kS_shelveWrites_56 : decode mS_shelveWrites.2.1 56 = .ok (.goto (-49), 3) := by decide +kernel
theorem kS_shelveWrites_59 : decode mS_shelveWrites.2.1 59 = .ok (.return_, 1) := by decide +kernel
theorem kS_isNeeded_0 : decode mS_isNeeded.2.1 0 = .ok (.aload_n 0, 1) := by decide +kernel
theorem kS_isNeeded_1 : decode mS_isNeeded.2.1 1 = .ok (.getfield 14, 3) := by decide +kernel
theorem kS_isNeeded_4 : decode mS_isNeeded.2.1 4 = .ok (.getfield 117, 3) := by decide +kernel
theorem kS_isNeeded_7 : decode mS_isNeeded.2.1 7 = .ok (.iload_n 1, 1) := by decide +kernel
theorem kS_isNeeded_8 : decode mS_isNeeded.2.1 8 = .ok (.iaload, 1) := by decide +kernel
theorem kS_isNeeded_9 : decode mS_isNeeded.2.1 9 = .ok (.istore_n 2, 1) := by decide +kernel
theorem kS_isNeeded_10 : decode mS_isNeeded.2.1 10 = .ok (.aload_n 0, 1) := by decide +kernel
theorem kS_isNeeded_11 : decode mS_isNeeded.2.1 11 = .ok (.getfield 14, 3) := by decide +kernel
theorem kS_isNeeded_14 : decode mS_isNeeded.2.1 14 = .ok (.iload_n 2, 1) := by decide +kernel
theorem kS_isNeeded_15 : decode mS_isNeeded.2.1 15 = .ok (.aload_n 0, 1) := by decide +kernel
theorem kS_isNeeded_16 : decode mS_isNeeded.2.1 16 = .ok (.getfield 24, 3) := by decide +kernel
theorem kS_isNeeded_19 : decode mS_isNeeded.2.1 19 = .ok (.invokevirtual 157, 3) := by decide +kernel
theorem kS_isNeeded_22 : decode mS_isNeeded.2.1 22 = .ok (.iload_n 1, 1) := by decide +kernel
theorem kS_isNeeded_23 : decode mS_isNeeded.2.1 23 = .ok (.if_icmp .ne 5, 3) := by decide +kernel
theorem kS_isNeeded_26 : decode mS_isNeeded.2.1 26 = .ok (.iconst 1, 1) := by decide +kernel
theorem kS_isNeeded_27 : decode mS_isNeeded.2.1 27 = .ok (.ireturn, 1) := by decide +kernel
theorem kS_isNeeded_28 : decode mS_isNeeded.2.1 28 = .ok (.iconst 0, 1) := by decide +kernel
theorem kS_isNeeded_29 : decode mS_isNeeded.2.1 29 = .ok (.istore_n 3, 1) := by decide +kernel
theorem kS_isNeeded_30 : decode mS_isNeeded.2.1 30 = .ok (.iload_n 3, 1) := by decide +kernel
theorem kS_isNeeded_31 : decode mS_isNeeded.2.1 31 = .ok (.aload_n 0, 1) := by decide +kernel
theorem kS_isNeeded_32 : decode mS_isNeeded.2.1 32 = .ok (.getfield 20, 3) := by decide +kernel
theorem kS_isNeeded_35 : decode mS_isNeeded.2.1 35 = .ok (.arraylength, 1) := by decide +kernel
theorem kS_isNeeded_36 : decode mS_isNeeded.2.1 36 = .ok (.if_icmp .ge 44, 3) := by decide +kernel
theorem kS_isNeeded_39 : decode mS_isNeeded.2.1 39 = .ok (.aload_n 0, 1) := by decide +kernel
theorem kS_isNeeded_40 : decode mS_isNeeded.2.1 40 = .ok (.getfield 20, 3) := by decide +kernel
theorem kS_isNeeded_43 : decode mS_isNeeded.2.1 43 = .ok (.iload_n 3, 1) := by decide +kernel
theorem kS_isNeeded_44 : decode mS_isNeeded.2.1 44 = .ok (.aaload, 1) := by decide +kernel
theorem kS_isNeeded_45 : decode mS_isNeeded.2.1 45 = .ok (.getfield 89, 3) := by decide +kernel
theorem kS_isNeeded_48 : decode mS_isNeeded.2.1 48 = .ok (.ifCond .eq 26, 3) := by decide +kernel
theorem kS_isNeeded_51 : decode mS_isNeeded.2.1 51 = .ok (.aload_n 0, 1) := by decide +kernel
theorem kS_isNeeded_52 : decode mS_isNeeded.2.1 52 = .ok (.getfield 14, 3) := by decide +kernel
theorem kS_isNeeded_55 : decode mS_isNeeded.2.1 55 = .ok (.iload_n 2, 1) := by decide +kernel
theorem kS_isNeeded_56 : decode mS_isNeeded.2.1 56 = .ok (.aload_n 0, 1) := by decide +kernel
theorem kS_isNeeded_57 : decode mS_isNeeded.2.1 57 = .ok (.getfield 20, 3) := by decide +kernel
theorem kS_isNeeded_60 : decode mS_isNeeded.2.1 60 = .ok (.iload_n 3, 1) := by decide +kernel
theorem kS_isNeeded_61 : decode mS_isNeeded.2.1 61 = .ok (.aaload, 1) := by decide +kernel
theorem kS_isNeeded_62 : decode mS_isNeeded.2.1 62 = .ok (.getfield 57, 3) := by decide +kernel
theorem kS_isNeeded_65 : decode mS_isNeeded.2.1 65 = .ok (.invokevirtual 157, 3) := by decide +kernel
theorem kS_isNeeded_68 : decode mS_isNeeded.2.1 68 = .ok (.iload_n 1, 1) := by decide +kernel
theorem kS_isNeeded_69 : decode mS_isNeeded.2.1 69 = .ok (.if_icmp .ne 5, 3) := by decide +kernel
theorem kS_isNeeded_72 : decode mS_isNeeded.2.1 72 = .ok (.iconst 1, 1) := by decide +kernel
theorem kS_isNeeded_73 : decode mS_isNeeded.2.1 73 = .ok (.ireturn, 1) := by decide +kernel
theorem kS_isNeeded_74 : decode mS_isNeeded.2.1 74 = .ok (.iinc 3 1, 3) := by decide +kernel
theorem kS_isNeeded_77 : decode mS_isNeeded.2.1 77 = .ok (.goto (-47), 3) := by decide +kernel
theorem kS_isNeeded_80 : decode mS_isNeeded.2.1 80 = .ok (.iconst 0, 1) := by decide +kernel
theorem kS_isNeeded_81 : decode mS_isNeeded.2.1 81 = .ok (.ireturn, 1) := by decide +kernel
