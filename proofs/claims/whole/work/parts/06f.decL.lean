theorem kL_begin_0 : decode mL_begin.2.1 0 = .ok (.aload_n 1, 1) := by decide +kernel
theorem kL_begin_1 : decode mL_begin.2.1 1 = .ok (.iconst 0, 1) := by decide +kernel
theorem kL_begin_2 : decode mL_begin.2.1 2 = .ok (.aload_n 0, 1) := by decide +kernel
theorem kL_begin_3 : decode mL_begin.2.1 3 = .ok (.invokevirtual 7, 3) := by decide +kernel
theorem kL_begin_6 : decode mL_begin.2.1 6 = .ok (.i2l, 1) := by decide +kernel
theorem kL_begin_7 : decode mL_begin.2.1 7 = .ok (.lastore, 1) := by decide +kernel
theorem kL_begin_8 : decode mL_begin.2.1 8 = .ok (.goto 6, 3) := by decide +kernel
theorem kL_begin_11 : decode mL_begin.2.1 11 = .ok (.astore_n 2, 1) := by decide +kernel
theorem kL_begin_12 : decode mL_begin.2.1 12 = .ok (.iconst 1, 1) := by decide +kernel
theorem kL_begin_13 : decode mL_begin.2.1 13 = .ok (.ireturn, 1) := by decide +kernel
theorem kL_begin_14 : decode mL_begin.2.1 14 = .ok (.iconst 0, 1) := by decide +kernel
theorem kL_begin_15 : decode mL_begin.2.1 15 = .ok (.ireturn, 1) := by decide +kernel
theorem kL_beginAt_0 : decode mL_beginAt.2.1 0 = .ok (.aload_n 2, 1) := by decide +kernel
theorem kL_beginAt_1 : decode mL_beginAt.2.1 1 = .ok (.iconst 0, 1) := by decide +kernel
theorem kL_beginAt_2 : decode mL_beginAt.2.1 2 = .ok (.aload_n 0, 1) := by decide +kernel
theorem kL_beginAt_3 : decode mL_beginAt.2.1 3 = .ok (.iload_n 1, 1) := by decide +kernel
theorem kL_beginAt_4 : decode mL_beginAt.2.1 4 = .ok (.invokevirtual 15, 3) := by decide +kernel
theorem kL_beginAt_7 : decode mL_beginAt.2.1 7 = .ok (.i2l, 1) := by decide +kernel
theorem kL_beginAt_8 : decode mL_beginAt.2.1 8 = .ok (.lastore, 1) := by decide +kernel
theorem kL_beginAt_9 : decode mL_beginAt.2.1 9 = .ok (.goto 9, 3) := by decide +kernel
theorem kL_beginAt_12 : decode mL_beginAt.2.1 12 = .ok (.astore_n 3, 1) := by decide +kernel
theorem kL_beginAt_13 : decode mL_beginAt.2.1 13 = .ok (.iconst 1, 1) := by decide +kernel
theorem kL_beginAt_14 : decode mL_beginAt.2.1 14 = .ok (.ireturn, 1) := by decide +kernel
theorem kL_beginAt_15 : decode mL_beginAt.2.1 15 = .ok (.astore_n 3, 1) := by decide +kernel
theorem kL_beginAt_16 : decode mL_beginAt.2.1 16 = .ok (.iconst 2, 1) := by decide +kernel
theorem kL_beginAt_17 : decode mL_beginAt.2.1 17 = .ok (.ireturn, 1) := by decide +kernel
theorem kL_beginAt_18 : decode mL_beginAt.2.1 18 = .ok (.iconst 0, 1) := by decide +kernel
theorem kL_beginAt_19 : decode mL_beginAt.2.1 19 = .ok (.ireturn, 1) := by decide +kernel
theorem kL_read_0 : decode mL_read.2.1 0 = .ok (.aload_n 3, 1) := by decide +kernel
theorem kL_read_1 : decode mL_read.2.1 1 = .ok (.iconst 0, 1) := by decide +kernel
theorem kL_read_2 : decode mL_read.2.1 2 = .ok (.aload_n 0, 1) := by decide +kernel
theorem kL_read_3 : decode mL_read.2.1 3 = .ok (.iload_n 1, 1) := by decide +kernel
theorem kL_read_4 : decode mL_read.2.1 4 = .ok (.iload_n 2, 1) := by decide +kernel
theorem kL_read_5 : decode mL_read.2.1 5 = .ok (.invokevirtual 21, 3) := by decide +kernel
theorem kL_read_8 : decode mL_read.2.1 8 = .ok (.lastore, 1) := by decide +kernel
theorem kL_read_9 : decode mL_read.2.1 9 = .ok (.goto 15, 3) := by decide +kernel
theorem kL_read_12 : decode mL_read.2.1 12 = .ok (.astore 4, 2) := by decide +kernel
theorem kL_read_14 : decode mL_read.2.1 14 = .ok (.iconst 1, 1) := by decide +kernel
theorem kL_read_15 : decode mL_read.2.1 15 = .ok (.ireturn, 1) := by decide +kernel
theorem kL_read_16 : decode mL_read.2.1 16 = .ok (.astore 4, 2) := by decide +kernel
theorem kL_read_18 : decode mL_read.2.1 18 = .ok (.iconst 2, 1) := by decide +kernel
theorem kL_read_19 : decode mL_read.2.1 19 = .ok (.ireturn, 1) := by decide +kernel
theorem kL_read_20 : decode mL_read.2.1 20 = .ok (.astore 4, 2) := by decide +kernel
theorem kL_read_22 : decode mL_read.2.1 22 = .ok (.iconst 3, 1) := by decide +kernel
theorem kL_read_23 : decode mL_read.2.1 23 = .ok (.ireturn, 1) := by decide +kernel
theorem kL_read_24 : decode mL_read.2.1 24 = .ok (.iconst 0, 1) := by decide +kernel
theorem kL_read_25 : decode mL_read.2.1 25 = .ok (.ireturn, 1) := by decide +kernel
theorem kL_write_0 : decode mL_write.2.1 0 = .ok (.aload_n 0, 1) := by decide +kernel
theorem kL_write_1 : decode mL_write.2.1 1 = .ok (.iload_n 1, 1) := by decide +kernel
theorem kL_write_2 : decode mL_write.2.1 2 = .ok (.iload_n 2, 1) := by decide +kernel
theorem kL_write_3 : decode mL_write.2.1 3 = .ok (.lload_n 3, 1) := by decide +kernel
theorem kL_write_4 : decode mL_write.2.1 4 = .ok (.invokevirtual 29, 3) := by decide +kernel
theorem kL_write_7 : decode mL_write.2.1 7 = .ok (.goto 15, 3) := by decide +kernel
theorem kL_write_10 : decode mL_write.2.1 10 = .ok (.astore 5, 2) := by decide +kernel
theorem kL_write_12 : decode mL_write.2.1 12 = .ok (.iconst 1, 1) := by decide +kernel
theorem kL_write_13 : decode mL_write.2.1 13 = .ok (.ireturn, 1) := by decide +kernel
theorem kL_write_14 : decode mL_write.2.1 14 = .ok (.astore 5, 2) := by decide +kernel
theorem kL_write_16 : decode mL_write.2.1 16 = .ok (.iconst 2, 1) := by decide +kernel
theorem kL_write_17 : decode mL_write.2.1 17 = .ok (.ireturn, 1) := by decide +kernel
theorem kL_write_18 : decode mL_write.2.1 18 = .ok (.astore 5, 2) := by decide +kernel
theorem kL_write_20 : decode mL_write.2.1 20 = .ok (.iconst 3, 1) := by decide +kernel
theorem kL_write_21 : decode mL_write.2.1 21 = .ok (.ireturn, 1) := by decide +kernel
theorem kL_write_22 : decode mL_write.2.1 22 = .ok (.iconst 0, 1) := by decide +kernel
theorem kL_write_23 : decode mL_write.2.1 23 = .ok (.ireturn, 1) := by decide +kernel
theorem kL_erase_0 : decode mL_erase.2.1 0 = .ok (.aload_n 0, 1) := by decide +kernel
theorem kL_erase_1 : decode mL_erase.2.1 1 = .ok (.iload_n 1, 1) := by decide +kernel
theorem kL_erase_2 : decode mL_erase.2.1 2 = .ok (.iload_n 2, 1) := by decide +kernel
theorem kL_erase_3 : decode mL_erase.2.1 3 = .ok (.invokevirtual 33, 3) := by decide +kernel
theorem kL_erase_6 : decode mL_erase.2.1 6 = .ok (.goto 15, 3) := by decide +kernel
theorem kL_erase_9 : decode mL_erase.2.1 9 = .ok (.astore_n 3, 1) := by decide +kernel
theorem kL_erase_10 : decode mL_erase.2.1 10 = .ok (.iconst 1, 1) := by decide +kernel
theorem kL_erase_11 : decode mL_erase.2.1 11 = .ok (.ireturn, 1) := by decide +kernel
theorem kL_erase_12 : decode mL_erase.2.1 12 = .ok (.astore_n 3, 1) := by decide +kernel
theorem kL_erase_13 : decode mL_erase.2.1 13 = .ok (.iconst 2, 1) := by decide +kernel
theorem kL_erase_14 : decode mL_erase.2.1 14 = .ok (.ireturn, 1) := by decide +kernel
theorem kL_erase_15 : decode mL_erase.2.1 15 = .ok (.astore_n 3, 1) := by decide +kernel
theorem kL_erase_16 : decode mL_erase.2.1 16 = .ok (.iconst 3, 1) := by decide +kernel
theorem kL_erase_17 : decode mL_erase.2.1 17 = .ok (.ireturn, 1) := by decide +kernel
theorem kL_erase_18 : decode mL_erase.2.1 18 = .ok (.astore_n 3, 1) := by decide +kernel
theorem kL_erase_19 : decode mL_erase.2.1 19 = .ok (.iconst 4, 1) := by decide +kernel
theorem kL_erase_20 : decode mL_erase.2.1 20 = .ok (.ireturn, 1) := by decide +kernel
theorem kL_erase_21 : decode mL_erase.2.1 21 = .ok (.iconst 0, 1) := by decide +kernel
theorem kL_erase_22 : decode mL_erase.2.1 22 = .ok (.ireturn, 1) := by decide +kernel
theorem kL_mark_0 : decode mL_mark.2.1 0 = .ok (.aload_n 2, 1) := by decide +kernel
theorem kL_mark_1 : decode mL_mark.2.1 1 = .ok (.iconst 0, 1) := by decide +kernel
theorem kL_mark_2 : decode mL_mark.2.1 2 = .ok (.aload_n 0, 1) := by decide +kernel
theorem kL_mark_3 : decode mL_mark.2.1 3 = .ok (.iload_n 1, 1) := by decide +kernel
theorem kL_mark_4 : decode mL_mark.2.1 4 = .ok (.invokevirtual 37, 3) := by decide +kernel
theorem kL_mark_7 : decode mL_mark.2.1 7 = .ok (.i2l, 1) := by decide +kernel
theorem kL_mark_8 : decode mL_mark.2.1 8 = .ok (.lastore, 1) := by decide +kernel
theorem kL_mark_9 : decode mL_mark.2.1 9 = .ok (.goto 6, 3) := by decide +kernel
theorem kL_mark_12 : decode mL_mark.2.1 12 = .ok (.astore_n 3, 1) := by decide +kernel
theorem kL_mark_13 : decode mL_mark.2.1 13 = .ok (.iconst 1, 1) := by decide +kernel
theorem kL_mark_14 : decode mL_mark.2.1 14 = .ok (.ireturn, 1) := by decide +kernel
theorem kL_mark_15 : decode mL_mark.2.1 15 = .ok (.iconst 0, 1) := by decide +kernel
theorem kL_mark_16 : decode mL_mark.2.1 16 = .ok (.ireturn, 1) := by decide +kernel
theorem kL_rollback_0 : decode mL_rollback.2.1 0 = .ok (.aload_n 0, 1) := by decide +kernel
theorem kL_rollback_1 : decode mL_rollback.2.1 1 = .ok (.iload_n 1, 1) := by decide +kernel
theorem kL_rollback_2 : decode mL_rollback.2.1 2 = .ok (.iload_n 2, 1) := by decide +kernel
theorem kL_rollback_3 : decode mL_rollback.2.1 3 = .ok (.invokevirtual 40, 3) := by decide +kernel
theorem kL_rollback_6 : decode mL_rollback.2.1 6 = .ok (.goto 9, 3) := by decide +kernel
theorem kL_rollback_9 : decode mL_rollback.2.1 9 = .ok (.astore_n 3, 1) := by decide +kernel
theorem kL_rollback_10 : decode mL_rollback.2.1 10 = .ok (.iconst 1, 1) := by decide +kernel
theorem kL_rollback_11 : decode mL_rollback.2.1 11 = .ok (.ireturn, 1) := by decide +kernel
theorem kL_rollback_12 : decode mL_rollback.2.1 12 = .ok (.astore_n 3, 1) := by decide +kernel
theorem kL_rollback_13 : decode mL_rollback.2.1 13 = .ok (.iconst 2, 1) := by decide +kernel
theorem kL_rollback_14 : decode mL_rollback.2.1 14 = .ok (.ireturn, 1) := by decide +kernel
theorem kL_rollback_15 : decode mL_rollback.2.1 15 = .ok (.iconst 0, 1) := by decide +kernel
theorem kL_rollback_16 : decode mL_rollback.2.1 16 = .ok (.ireturn, 1) := by decide +kernel
theorem kL_next_0 : decode mL_next.2.1 0 = .ok (.aload_n 3, 1) := by decide +kernel
theorem kL_next_1 : decode mL_next.2.1 1 = .ok (.iconst 0, 1) := by decide +kernel
theorem kL_next_2 : decode mL_next.2.1 2 = .ok (.aload_n 0, 1) := by decide +kernel
theorem kL_next_3 : decode mL_next.2.1 3 = .ok (.iload_n 1, 1) := by decide +kernel
theorem kL_next_4 : decode mL_next.2.1 4 = .ok (.iload_n 2, 1) := by decide +kernel
theorem kL_next_5 : decode mL_next.2.1 5 = .ok (.invokevirtual 43, 3) := by decide +kernel
theorem kL_next_8 : decode mL_next.2.1 8 = .ok (.i2l, 1) := by decide +kernel
theorem kL_next_9 : decode mL_next.2.1 9 = .ok (.lastore, 1) := by decide +kernel
theorem kL_next_10 : decode mL_next.2.1 10 = .ok (.goto 11, 3) := by decide +kernel
theorem kL_next_13 : decode mL_next.2.1 13 = .ok (.astore 4, 2) := by decide +kernel
theorem kL_next_15 : decode mL_next.2.1 15 = .ok (.iconst 1, 1) := by decide +kernel
theorem kL_next_16 : decode mL_next.2.1 16 = .ok (.ireturn, 1) := by decide +kernel
theorem kL_next_17 : decode mL_next.2.1 17 = .ok (.astore 4, 2) := by decide +kernel
theorem kL_next_19 : decode mL_next.2.1 19 = .ok (.iconst 2, 1) := by decide +kernel
theorem kL_next_20 : decode mL_next.2.1 20 = .ok (.ireturn, 1) := by decide +kernel
theorem kL_next_21 : decode mL_next.2.1 21 = .ok (.iconst 0, 1) := by decide +kernel
theorem kL_next_22 : decode mL_next.2.1 22 = .ok (.ireturn, 1) := by decide +kernel
theorem kL_commit_0 : decode mL_commit.2.1 0 = .ok (.aload_n 2, 1) := by decide +kernel
theorem kL_commit_1 : decode mL_commit.2.1 1 = .ok (.iconst 0, 1) := by decide +kernel
theorem kL_commit_2 : decode mL_commit.2.1 2 = .ok (.aload_n 0, 1) := by decide +kernel
theorem kL_commit_3 : decode mL_commit.2.1 3 = .ok (.iload_n 1, 1) := by decide +kernel
theorem kL_commit_4 : decode mL_commit.2.1 4 = .ok (.invokevirtual 47, 3) := by decide +kernel
theorem kL_commit_7 : decode mL_commit.2.1 7 = .ok (.i2l, 1) := by decide +kernel
theorem kL_commit_8 : decode mL_commit.2.1 8 = .ok (.lastore, 1) := by decide +kernel
theorem kL_commit_9 : decode mL_commit.2.1 9 = .ok (.goto 9, 3) := by decide +kernel
theorem kL_commit_12 : decode mL_commit.2.1 12 = .ok (.astore_n 3, 1) := by decide +kernel
theorem kL_commit_13 : decode mL_commit.2.1 13 = .ok (.iconst 1, 1) := by decide +kernel
theorem kL_commit_14 : decode mL_commit.2.1 14 = .ok (.ireturn, 1) := by decide +kernel
theorem kL_commit_15 : decode mL_commit.2.1 15 = .ok (.astore_n 3, 1) := by decide +kernel
theorem kL_commit_16 : decode mL_commit.2.1 16 = .ok (.iconst 2, 1) := by decide +kernel
theorem kL_commit_17 : decode mL_commit.2.1 17 = .ok (.ireturn, 1) := by decide +kernel
theorem kL_commit_18 : decode mL_commit.2.1 18 = .ok (.iconst 0, 1) := by decide +kernel
theorem kL_commit_19 : decode mL_commit.2.1 19 = .ok (.ireturn, 1) := by decide +kernel
theorem kL_abort_0 : decode mL_abort.2.1 0 = .ok (.aload_n 0, 1) := by decide +kernel
theorem kL_abort_1 : decode mL_abort.2.1 1 = .ok (.iload_n 1, 1) := by decide +kernel
theorem kL_abort_2 : decode mL_abort.2.1 2 = .ok (.invokevirtual 50, 3) := by decide +kernel
theorem kL_abort_5 : decode mL_abort.2.1 5 = .ok (.goto 6, 3) := by decide +kernel
theorem kL_abort_8 : decode mL_abort.2.1 8 = .ok (.astore_n 2, 1) := by decide +kernel
theorem kL_abort_9 : decode mL_abort.2.1 9 = .ok (.iconst 1, 1) := by decide +kernel
theorem kL_abort_10 : decode mL_abort.2.1 10 = .ok (.ireturn, 1) := by decide +kernel
theorem kL_abort_11 : decode mL_abort.2.1 11 = .ok (.iconst 0, 1) := by decide +kernel
theorem kL_abort_12 : decode mL_abort.2.1 12 = .ok (.ireturn, 1) := by decide +kernel
theorem kL_start_0 : decode mL_start.2.1 0 = .ok (.aload_n 2, 1) := by decide +kernel
theorem kL_start_1 : decode mL_start.2.1 1 = .ok (.iconst 0, 1) := by decide +kernel
theorem kL_start_2 : decode mL_start.2.1 2 = .ok (.aload_n 0, 1) := by decide +kernel
theorem kL_start_3 : decode mL_start.2.1 3 = .ok (.iload_n 1, 1) := by decide +kernel
theorem kL_start_4 : decode mL_start.2.1 4 = .ok (.invokevirtual 54, 3) := by decide +kernel
theorem kL_start_7 : decode mL_start.2.1 7 = .ok (.i2l, 1) := by decide +kernel
theorem kL_start_8 : decode mL_start.2.1 8 = .ok (.lastore, 1) := by decide +kernel
theorem kL_start_9 : decode mL_start.2.1 9 = .ok (.goto 6, 3) := by decide +kernel
theorem kL_start_12 : decode mL_start.2.1 12 = .ok (.astore_n 3, 1) := by decide +kernel
theorem kL_start_13 : decode mL_start.2.1 13 = .ok (.iconst 1, 1) := by decide +kernel
theorem kL_start_14 : decode mL_start.2.1 14 = .ok (.ireturn, 1) := by decide +kernel
theorem kL_start_15 : decode mL_start.2.1 15 = .ok (.iconst 0, 1) := by decide +kernel
theorem kL_start_16 : decode mL_start.2.1 16 = .ok (.ireturn, 1) := by decide +kernel
theorem kL_versions_0 : decode mL_versions.2.1 0 = .ok (.aload_n 2, 1) := by decide +kernel
theorem kL_versions_1 : decode mL_versions.2.1 1 = .ok (.iconst 0, 1) := by decide +kernel
theorem kL_versions_2 : decode mL_versions.2.1 2 = .ok (.aload_n 0, 1) := by decide +kernel
theorem kL_versions_3 : decode mL_versions.2.1 3 = .ok (.iload_n 1, 1) := by decide +kernel
theorem kL_versions_4 : decode mL_versions.2.1 4 = .ok (.invokevirtual 57, 3) := by decide +kernel
theorem kL_versions_7 : decode mL_versions.2.1 7 = .ok (.i2l, 1) := by decide +kernel
theorem kL_versions_8 : decode mL_versions.2.1 8 = .ok (.lastore, 1) := by decide +kernel
theorem kL_versions_9 : decode mL_versions.2.1 9 = .ok (.goto 6, 3) := by decide +kernel
theorem kL_versions_12 : decode mL_versions.2.1 12 = .ok (.astore_n 3, 1) := by decide +kernel
theorem kL_versions_13 : decode mL_versions.2.1 13 = .ok (.iconst 1, 1) := by decide +kernel
theorem kL_versions_14 : decode mL_versions.2.1 14 = .ok (.ireturn, 1) := by decide +kernel
theorem kL_versions_15 : decode mL_versions.2.1 15 = .ok (.iconst 0, 1) := by decide +kernel
theorem kL_versions_16 : decode mL_versions.2.1 16 = .ok (.ireturn, 1) := by decide +kernel
theorem kL_timeOf_0 : decode mL_timeOf.2.1 0 = .ok (.aload_n 3, 1) := by decide +kernel
theorem kL_timeOf_1 : decode mL_timeOf.2.1 1 = .ok (.iconst 0, 1) := by decide +kernel
theorem kL_timeOf_2 : decode mL_timeOf.2.1 2 = .ok (.aload_n 0, 1) := by decide +kernel
theorem kL_timeOf_3 : decode mL_timeOf.2.1 3 = .ok (.iload_n 1, 1) := by decide +kernel
theorem kL_timeOf_4 : decode mL_timeOf.2.1 4 = .ok (.iload_n 2, 1) := by decide +kernel
theorem kL_timeOf_5 : decode mL_timeOf.2.1 5 = .ok (.invokevirtual 60, 3) := by decide +kernel
theorem kL_timeOf_8 : decode mL_timeOf.2.1 8 = .ok (.i2l, 1) := by decide +kernel
theorem kL_timeOf_9 : decode mL_timeOf.2.1 9 = .ok (.lastore, 1) := by decide +kernel
theorem kL_timeOf_10 : decode mL_timeOf.2.1 10 = .ok (.goto 11, 3) := by decide +kernel
theorem kL_timeOf_13 : decode mL_timeOf.2.1 13 = .ok (.astore 4, 2) := by decide +kernel
theorem kL_timeOf_15 : decode mL_timeOf.2.1 15 = .ok (.iconst 1, 1) := by decide +kernel
theorem kL_timeOf_16 : decode mL_timeOf.2.1 16 = .ok (.ireturn, 1) := by decide +kernel
theorem kL_timeOf_17 : decode mL_timeOf.2.1 17 = .ok (.astore 4, 2) := by decide +kernel
theorem kL_timeOf_19 : decode mL_timeOf.2.1 19 = .ok (.iconst 2, 1) := by decide +kernel
theorem kL_timeOf_20 : decode mL_timeOf.2.1 20 = .ok (.ireturn, 1) := by decide +kernel
theorem kL_timeOf_21 : decode mL_timeOf.2.1 21 = .ok (.iconst 0, 1) := by decide +kernel
theorem kL_timeOf_22 : decode mL_timeOf.2.1 22 = .ok (.ireturn, 1) := by decide +kernel
theorem kL_valueOf_0 : decode mL_valueOf.2.1 0 = .ok (.aload_n 3, 1) := by decide +kernel
theorem kL_valueOf_1 : decode mL_valueOf.2.1 1 = .ok (.iconst 0, 1) := by decide +kernel
theorem kL_valueOf_2 : decode mL_valueOf.2.1 2 = .ok (.aload_n 0, 1) := by decide +kernel
theorem kL_valueOf_3 : decode mL_valueOf.2.1 3 = .ok (.iload_n 1, 1) := by decide +kernel
theorem kL_valueOf_4 : decode mL_valueOf.2.1 4 = .ok (.iload_n 2, 1) := by decide +kernel
theorem kL_valueOf_5 : decode mL_valueOf.2.1 5 = .ok (.invokevirtual 63, 3) := by decide +kernel
theorem kL_valueOf_8 : decode mL_valueOf.2.1 8 = .ok (.lastore, 1) := by decide +kernel
theorem kL_valueOf_9 : decode mL_valueOf.2.1 9 = .ok (.goto 11, 3) := by decide +kernel
theorem kL_valueOf_12 : decode mL_valueOf.2.1 12 = .ok (.astore 4, 2) := by decide +kernel
theorem kL_valueOf_14 : decode mL_valueOf.2.1 14 = .ok (.iconst 1, 1) := by decide +kernel
theorem kL_valueOf_15 : decode mL_valueOf.2.1 15 = .ok (.ireturn, 1) := by decide +kernel
theorem kL_valueOf_16 : decode mL_valueOf.2.1 16 = .ok (.astore 4, 2) := by decide +kernel
theorem kL_valueOf_18 : decode mL_valueOf.2.1 18 = .ok (.iconst 2, 1) := by decide +kernel
theorem kL_valueOf_19 : decode mL_valueOf.2.1 19 = .ok (.ireturn, 1) := by decide +kernel
theorem kL_valueOf_20 : decode mL_valueOf.2.1 20 = .ok (.iconst 0, 1) := by decide +kernel
theorem kL_valueOf_21 : decode mL_valueOf.2.1 21 = .ok (.ireturn, 1) := by decide +kernel
