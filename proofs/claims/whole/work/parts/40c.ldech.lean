theorem dL_cell_0 : decode cL_cell 0 = .ok (.iload_n 1, 1) := by decide +kernel
theorem dL_cell_1 : decode cL_cell 1 = .ok (.aload_n 0, 1) := by decide +kernel
theorem dL_cell_2 : decode cL_cell 2 = .ok (.arraylength, 1) := by decide +kernel
theorem dL_cell_3 : decode cL_cell 3 = .ok (.if_icmp .ge 9, 3) := by decide +kernel
theorem dL_cell_6 : decode cL_cell 6 = .ok (.aload_n 0, 1) := by decide +kernel
theorem dL_cell_7 : decode cL_cell 7 = .ok (.iload_n 1, 1) := by decide +kernel
theorem dL_cell_8 : decode cL_cell 8 = .ok (.iaload, 1) := by decide +kernel
theorem dL_cell_9 : decode cL_cell 9 = .ok (.goto 4, 3) := by decide +kernel
theorem dL_cell_12 : decode cL_cell 12 = .ok (.iconst 0, 1) := by decide +kernel
theorem dL_cell_13 : decode cL_cell 13 = .ok (.ireturn, 1) := by decide +kernel
theorem dL_end_0 : decode cL_end 0 = .ok (.aload_n 3, 1) := by decide +kernel
theorem dL_end_1 : decode cL_end 1 = .ok (.iconst 0, 1) := by decide +kernel
theorem dL_end_2 : decode cL_end 2 = .ok (.aload_n 0, 1) := by decide +kernel
theorem dL_end_3 : decode cL_end 3 = .ok (.iload_n 1, 1) := by decide +kernel
theorem dL_end_4 : decode cL_end 4 = .ok (.iload_n 2, 1) := by decide +kernel
theorem dL_end_5 : decode cL_end 5 = .ok (.invokevirtual 7, 3) := by decide +kernel
theorem dL_end_8 : decode cL_end 8 = .ok (.i2l, 1) := by decide +kernel
theorem dL_end_9 : decode cL_end 9 = .ok (.lastore, 1) := by decide +kernel
theorem dL_end_10 : decode cL_end 10 = .ok (.goto 11, 3) := by decide +kernel
theorem dL_end_13 : decode cL_end 13 = .ok (.astore 4, 2) := by decide +kernel
theorem dL_end_15 : decode cL_end 15 = .ok (.iconst 1, 1) := by decide +kernel
theorem dL_end_16 : decode cL_end 16 = .ok (.ireturn, 1) := by decide +kernel
theorem dL_end_17 : decode cL_end 17 = .ok (.astore 4, 2) := by decide +kernel
theorem dL_end_19 : decode cL_end 19 = .ok (.iconst 2, 1) := by decide +kernel
theorem dL_end_20 : decode cL_end 20 = .ok (.ireturn, 1) := by decide +kernel
theorem dL_end_21 : decode cL_end 21 = .ok (.iconst 0, 1) := by decide +kernel
theorem dL_end_22 : decode cL_end 22 = .ok (.ireturn, 1) := by decide +kernel
theorem dL_sync_0 : decode cL_sync 0 = .ok (.aload_n 1, 1) := by decide +kernel
theorem dL_sync_1 : decode cL_sync 1 = .ok (.iconst 0, 1) := by decide +kernel
theorem dL_sync_2 : decode cL_sync 2 = .ok (.aload_n 0, 1) := by decide +kernel
theorem dL_sync_3 : decode cL_sync 3 = .ok (.invokevirtual 17, 3) := by decide +kernel
theorem dL_sync_6 : decode cL_sync 6 = .ok (.i2l, 1) := by decide +kernel
theorem dL_sync_7 : decode cL_sync 7 = .ok (.lastore, 1) := by decide +kernel
theorem dL_sync_8 : decode cL_sync 8 = .ok (.goto 6, 3) := by decide +kernel
theorem dL_sync_11 : decode cL_sync 11 = .ok (.astore_n 2, 1) := by decide +kernel
theorem dL_sync_12 : decode cL_sync 12 = .ok (.iconst 1, 1) := by decide +kernel
theorem dL_sync_13 : decode cL_sync 13 = .ok (.ireturn, 1) := by decide +kernel
theorem dL_sync_14 : decode cL_sync 14 = .ok (.iconst 0, 1) := by decide +kernel
theorem dL_sync_15 : decode cL_sync 15 = .ok (.ireturn, 1) := by decide +kernel
theorem dL_disk_0 : decode cL_disk 0 = .ok (.aload_n 3, 1) := by decide +kernel
theorem dL_disk_1 : decode cL_disk 1 = .ok (.iconst 0, 1) := by decide +kernel
theorem dL_disk_2 : decode cL_disk 2 = .ok (.aload_n 0, 1) := by decide +kernel
theorem dL_disk_3 : decode cL_disk 3 = .ok (.iload_n 1, 1) := by decide +kernel
theorem dL_disk_4 : decode cL_disk 4 = .ok (.iload_n 2, 1) := by decide +kernel
theorem dL_disk_5 : decode cL_disk 5 = .ok (.invokevirtual 21, 3) := by decide +kernel
theorem dL_disk_8 : decode cL_disk 8 = .ok (.i2l, 1) := by decide +kernel
theorem dL_disk_9 : decode cL_disk 9 = .ok (.lastore, 1) := by decide +kernel
theorem dL_disk_10 : decode cL_disk 10 = .ok (.goto 11, 3) := by decide +kernel
theorem dL_disk_13 : decode cL_disk 13 = .ok (.astore 4, 2) := by decide +kernel
theorem dL_disk_15 : decode cL_disk 15 = .ok (.iconst 1, 1) := by decide +kernel
theorem dL_disk_16 : decode cL_disk 16 = .ok (.ireturn, 1) := by decide +kernel
theorem dL_disk_17 : decode cL_disk 17 = .ok (.astore 4, 2) := by decide +kernel
theorem dL_disk_19 : decode cL_disk 19 = .ok (.iconst 2, 1) := by decide +kernel
theorem dL_disk_20 : decode cL_disk 20 = .ok (.ireturn, 1) := by decide +kernel
theorem dL_disk_21 : decode cL_disk 21 = .ok (.iconst 0, 1) := by decide +kernel
theorem dL_disk_22 : decode cL_disk 22 = .ok (.ireturn, 1) := by decide +kernel
theorem dL_at_0 : decode cL_at 0 = .ok (.aload_n 3, 1) := by decide +kernel
theorem dL_at_1 : decode cL_at 1 = .ok (.iconst 0, 1) := by decide +kernel
theorem dL_at_2 : decode cL_at 2 = .ok (.aload_n 0, 1) := by decide +kernel
theorem dL_at_3 : decode cL_at 3 = .ok (.iload_n 1, 1) := by decide +kernel
theorem dL_at_4 : decode cL_at 4 = .ok (.iload_n 2, 1) := by decide +kernel
theorem dL_at_5 : decode cL_at 5 = .ok (.invokevirtual 27, 3) := by decide +kernel
theorem dL_at_8 : decode cL_at 8 = .ok (.i2l, 1) := by decide +kernel
theorem dL_at_9 : decode cL_at 9 = .ok (.lastore, 1) := by decide +kernel
theorem dL_at_10 : decode cL_at 10 = .ok (.goto 15, 3) := by decide +kernel
theorem dL_at_13 : decode cL_at 13 = .ok (.astore 4, 2) := by decide +kernel
theorem dL_at_15 : decode cL_at 15 = .ok (.iconst 1, 1) := by decide +kernel
theorem dL_at_16 : decode cL_at 16 = .ok (.ireturn, 1) := by decide +kernel
theorem dL_at_17 : decode cL_at 17 = .ok (.astore 4, 2) := by decide +kernel
theorem dL_at_19 : decode cL_at 19 = .ok (.iconst 2, 1) := by decide +kernel
theorem dL_at_20 : decode cL_at 20 = .ok (.ireturn, 1) := by decide +kernel
theorem dL_at_21 : decode cL_at 21 = .ok (.astore 4, 2) := by decide +kernel
theorem dL_at_23 : decode cL_at 23 = .ok (.iconst 3, 1) := by decide +kernel
theorem dL_at_24 : decode cL_at 24 = .ok (.ireturn, 1) := by decide +kernel
theorem dL_at_25 : decode cL_at 25 = .ok (.iconst 0, 1) := by decide +kernel
theorem dL_at_26 : decode cL_at 26 = .ok (.ireturn, 1) := by decide +kernel
theorem dL_verify_0 : decode cL_verify 0 = .ok (.aload_n 1, 1) := by decide +kernel
theorem dL_verify_1 : decode cL_verify 1 = .ok (.iconst 0, 1) := by decide +kernel
theorem dL_verify_2 : decode cL_verify 2 = .ok (.aload_n 0, 1) := by decide +kernel
theorem dL_verify_3 : decode cL_verify 3 = .ok (.invokevirtual 32, 3) := by decide +kernel
theorem dL_verify_6 : decode cL_verify 6 = .ok (.i2l, 1) := by decide +kernel
theorem dL_verify_7 : decode cL_verify 7 = .ok (.lastore, 1) := by decide +kernel
theorem dL_verify_8 : decode cL_verify 8 = .ok (.goto 6, 3) := by decide +kernel
theorem dL_verify_11 : decode cL_verify 11 = .ok (.astore_n 2, 1) := by decide +kernel
theorem dL_verify_12 : decode cL_verify 12 = .ok (.iconst 1, 1) := by decide +kernel
theorem dL_verify_13 : decode cL_verify 13 = .ok (.ireturn, 1) := by decide +kernel
theorem dL_verify_14 : decode cL_verify 14 = .ok (.iconst 0, 1) := by decide +kernel
theorem dL_verify_15 : decode cL_verify 15 = .ok (.ireturn, 1) := by decide +kernel
theorem dL_extract_0 : decode cL_extract 0 = .ok (.aload_n 3, 1) := by decide +kernel
theorem dL_extract_1 : decode cL_extract 1 = .ok (.iconst 0, 1) := by decide +kernel
theorem dL_extract_2 : decode cL_extract 2 = .ok (.aload_n 0, 1) := by decide +kernel
theorem dL_extract_3 : decode cL_extract 3 = .ok (.iload_n 1, 1) := by decide +kernel
theorem dL_extract_4 : decode cL_extract 4 = .ok (.iload_n 2, 1) := by decide +kernel
theorem dL_extract_5 : decode cL_extract 5 = .ok (.invokevirtual 35, 3) := by decide +kernel
theorem dL_extract_8 : decode cL_extract 8 = .ok (.i2l, 1) := by decide +kernel
theorem dL_extract_9 : decode cL_extract 9 = .ok (.lastore, 1) := by decide +kernel
theorem dL_extract_10 : decode cL_extract 10 = .ok (.goto 11, 3) := by decide +kernel
theorem dL_extract_13 : decode cL_extract 13 = .ok (.astore 4, 2) := by decide +kernel
theorem dL_extract_15 : decode cL_extract 15 = .ok (.iconst 1, 1) := by decide +kernel
theorem dL_extract_16 : decode cL_extract 16 = .ok (.ireturn, 1) := by decide +kernel
theorem dL_extract_17 : decode cL_extract 17 = .ok (.astore 4, 2) := by decide +kernel
theorem dL_extract_19 : decode cL_extract 19 = .ok (.iconst 2, 1) := by decide +kernel
theorem dL_extract_20 : decode cL_extract 20 = .ok (.ireturn, 1) := by decide +kernel
theorem dL_extract_21 : decode cL_extract 21 = .ok (.iconst 0, 1) := by decide +kernel
theorem dL_extract_22 : decode cL_extract 22 = .ok (.ireturn, 1) := by decide +kernel
theorem dL_look_0 : decode cL_look 0 = .ok (.aload_n 3, 1) := by decide +kernel
theorem dL_look_1 : decode cL_look 1 = .ok (.iconst 0, 1) := by decide +kernel
theorem dL_look_2 : decode cL_look 2 = .ok (.aload_n 0, 1) := by decide +kernel
theorem dL_look_3 : decode cL_look 3 = .ok (.iload_n 1, 1) := by decide +kernel
theorem dL_look_4 : decode cL_look 4 = .ok (.iload_n 2, 1) := by decide +kernel
theorem dL_look_5 : decode cL_look 5 = .ok (.invokevirtual 38, 3) := by decide +kernel
theorem dL_look_8 : decode cL_look 8 = .ok (.i2l, 1) := by decide +kernel
theorem dL_look_9 : decode cL_look 9 = .ok (.lastore, 1) := by decide +kernel
theorem dL_look_10 : decode cL_look 10 = .ok (.goto 11, 3) := by decide +kernel
theorem dL_look_13 : decode cL_look 13 = .ok (.astore 4, 2) := by decide +kernel
theorem dL_look_15 : decode cL_look 15 = .ok (.iconst 1, 1) := by decide +kernel
theorem dL_look_16 : decode cL_look 16 = .ok (.ireturn, 1) := by decide +kernel
theorem dL_look_17 : decode cL_look 17 = .ok (.astore 4, 2) := by decide +kernel
theorem dL_look_19 : decode cL_look 19 = .ok (.iconst 2, 1) := by decide +kernel
theorem dL_look_20 : decode cL_look 20 = .ok (.ireturn, 1) := by decide +kernel
theorem dL_look_21 : decode cL_look 21 = .ok (.iconst 0, 1) := by decide +kernel
theorem dL_look_22 : decode cL_look 22 = .ok (.ireturn, 1) := by decide +kernel
