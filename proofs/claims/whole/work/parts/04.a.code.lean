/-! decode rows -/
theorem d_Pages_init_0 : decode b_Pages_init 0 = .ok (.aload_n 0, 1) := by decide +kernel
theorem d_Pages_init_1 : decode b_Pages_init 1 = .ok (.invokespecial 3, 3) := by decide +kernel
theorem d_Pages_init_4 : decode b_Pages_init 4 = .ok (.aload_n 0, 1) := by decide +kernel
theorem d_Pages_init_5 : decode b_Pages_init 5 = .ok (.ldc 9, 2) := by decide +kernel
theorem d_Pages_init_7 : decode b_Pages_init 7 = .ok (.newarray .byte, 2) := by decide +kernel
theorem d_Pages_init_9 : decode b_Pages_init 9 = .ok (.putfield 10, 3) := by decide +kernel
theorem d_Pages_init_12 : decode b_Pages_init 12 = .ok (.aload_n 0, 1) := by decide +kernel
theorem d_Pages_init_13 : decode b_Pages_init 13 = .ok (.sipush 2720, 3) := by decide +kernel
theorem d_Pages_init_16 : decode b_Pages_init 16 = .ok (.newarray .boolean, 2) := by decide +kernel
theorem d_Pages_init_18 : decode b_Pages_init 18 = .ok (.putfield 16, 3) := by decide +kernel
theorem d_Pages_init_21 : decode b_Pages_init 21 = .ok (.return_, 1) := by decide +kernel
theorem d_Pages_bytes_0 : decode b_Pages_bytes 0 = .ok (.aload_n 0, 1) := by decide +kernel
theorem d_Pages_bytes_1 : decode b_Pages_bytes 1 = .ok (.getfield 10, 3) := by decide +kernel
theorem d_Pages_bytes_4 : decode b_Pages_bytes 4 = .ok (.areturn, 1) := by decide +kernel
theorem d_Pages_isChanged_0 : decode b_Pages_isChanged 0 = .ok (.iload_n 1, 1) := by decide +kernel
theorem d_Pages_isChanged_1 : decode b_Pages_isChanged 1 = .ok (.ifCond .lt 23, 3) := by decide +kernel
theorem d_Pages_isChanged_4 : decode b_Pages_isChanged 4 = .ok (.iload_n 1, 1) := by decide +kernel
theorem d_Pages_isChanged_5 : decode b_Pages_isChanged 5 = .ok (.sipush 2720, 3) := by decide +kernel
theorem d_Pages_isChanged_8 : decode b_Pages_isChanged 8 = .ok (.if_icmp .ge 16, 3) := by decide +kernel
theorem d_Pages_isChanged_11 : decode b_Pages_isChanged 11 = .ok (.aload_n 0, 1) := by decide +kernel
theorem d_Pages_isChanged_12 : decode b_Pages_isChanged 12 = .ok (.getfield 16, 3) := by decide +kernel
theorem d_Pages_isChanged_15 : decode b_Pages_isChanged 15 = .ok (.iload_n 1, 1) := by decide +kernel
theorem d_Pages_isChanged_16 : decode b_Pages_isChanged 16 = .ok (.baload, 1) := by decide +kernel
theorem d_Pages_isChanged_17 : decode b_Pages_isChanged 17 = .ok (.ifCond .eq 7, 3) := by decide +kernel
theorem d_Pages_isChanged_20 : decode b_Pages_isChanged 20 = .ok (.iconst 1, 1) := by decide +kernel
theorem d_Pages_isChanged_21 : decode b_Pages_isChanged 21 = .ok (.goto 4, 3) := by decide +kernel
theorem d_Pages_isChanged_24 : decode b_Pages_isChanged 24 = .ok (.iconst 0, 1) := by decide +kernel
theorem d_Pages_isChanged_25 : decode b_Pages_isChanged 25 = .ok (.ireturn, 1) := by decide +kernel
theorem d_Pages_forgetChanges_0 : decode b_Pages_forgetChanges 0 = .ok (.iconst 0, 1) := by decide +kernel
theorem d_Pages_forgetChanges_1 : decode b_Pages_forgetChanges 1 = .ok (.istore_n 1, 1) := by decide +kernel
theorem d_Pages_forgetChanges_2 : decode b_Pages_forgetChanges 2 = .ok (.iload_n 1, 1) := by decide +kernel
theorem d_Pages_forgetChanges_3 : decode b_Pages_forgetChanges 3 = .ok (.sipush 2720, 3) := by decide +kernel
theorem d_Pages_forgetChanges_6 : decode b_Pages_forgetChanges 6 = .ok (.if_icmp .ge 16, 3) := by decide +kernel
theorem d_Pages_forgetChanges_9 : decode b_Pages_forgetChanges 9 = .ok (.aload_n 0, 1) := by decide +kernel
theorem d_Pages_forgetChanges_10 : decode b_Pages_forgetChanges 10 = .ok (.getfield 16, 3) := by decide +kernel
theorem d_Pages_forgetChanges_13 : decode b_Pages_forgetChanges 13 = .ok (.iload_n 1, 1) := by decide +kernel
theorem d_Pages_forgetChanges_14 : decode b_Pages_forgetChanges 14 = .ok (.iconst 0, 1) := by decide +kernel
theorem d_Pages_forgetChanges_15 : decode b_Pages_forgetChanges 15 = .ok (.bastore, 1) := by decide +kernel
theorem d_Pages_forgetChanges_16 : decode b_Pages_forgetChanges 16 = .ok (.iinc 1 1, 3) := by decide +kernel
theorem d_Pages_forgetChanges_19 : decode b_Pages_forgetChanges 19 = .ok (.goto (-17), 3) := by decide +kernel
theorem d_Pages_forgetChanges_22 : decode b_Pages_forgetChanges 22 = .ok (.return_, 1) := by decide +kernel
theorem d_Pages_undoChanges_0 : decode b_Pages_undoChanges 0 = .ok (.iconst 0, 1) := by decide +kernel
theorem d_Pages_undoChanges_1 : decode b_Pages_undoChanges 1 = .ok (.istore_n 2, 1) := by decide +kernel
theorem d_Pages_undoChanges_2 : decode b_Pages_undoChanges 2 = .ok (.iload_n 2, 1) := by decide +kernel
theorem d_Pages_undoChanges_3 : decode b_Pages_undoChanges 3 = .ok (.sipush 2720, 3) := by decide +kernel
theorem d_Pages_undoChanges_6 : decode b_Pages_undoChanges 6 = .ok (.if_icmp .ge 43, 3) := by decide +kernel
theorem d_Pages_undoChanges_9 : decode b_Pages_undoChanges 9 = .ok (.aload_n 0, 1) := by decide +kernel
theorem d_Pages_undoChanges_10 : decode b_Pages_undoChanges 10 = .ok (.getfield 16, 3) := by decide +kernel
theorem d_Pages_undoChanges_13 : decode b_Pages_undoChanges 13 = .ok (.iload_n 2, 1) := by decide +kernel
theorem d_Pages_undoChanges_14 : decode b_Pages_undoChanges 14 = .ok (.baload, 1) := by decide +kernel
theorem d_Pages_undoChanges_15 : decode b_Pages_undoChanges 15 = .ok (.ifCond .eq 28, 3) := by decide +kernel
theorem d_Pages_undoChanges_18 : decode b_Pages_undoChanges 18 = .ok (.aload_n 1, 1) := by decide +kernel
theorem d_Pages_undoChanges_19 : decode b_Pages_undoChanges 19 = .ok (.iload_n 2, 1) := by decide +kernel
theorem d_Pages_undoChanges_20 : decode b_Pages_undoChanges 20 = .ok (.bipush 32, 2) := by decide +kernel
theorem d_Pages_undoChanges_22 : decode b_Pages_undoChanges 22 = .ok (.imul, 1) := by decide +kernel
theorem d_Pages_undoChanges_23 : decode b_Pages_undoChanges 23 = .ok (.aload_n 0, 1) := by decide +kernel
theorem d_Pages_undoChanges_24 : decode b_Pages_undoChanges 24 = .ok (.getfield 10, 3) := by decide +kernel
theorem d_Pages_undoChanges_27 : decode b_Pages_undoChanges 27 = .ok (.iload_n 2, 1) := by decide +kernel
theorem d_Pages_undoChanges_28 : decode b_Pages_undoChanges 28 = .ok (.bipush 32, 2) := by decide +kernel
theorem d_Pages_undoChanges_30 : decode b_Pages_undoChanges 30 = .ok (.imul, 1) := by decide +kernel
theorem d_Pages_undoChanges_31 : decode b_Pages_undoChanges 31 = .ok (.bipush 32, 2) := by decide +kernel
theorem d_Pages_undoChanges_33 : decode b_Pages_undoChanges 33 = .ok (.invokestatic 20, 3) := by decide +kernel
theorem d_Pages_undoChanges_36 : decode b_Pages_undoChanges 36 = .ok (.aload_n 0, 1) := by decide +kernel
theorem d_Pages_undoChanges_37 : decode b_Pages_undoChanges 37 = .ok (.getfield 16, 3) := by decide +kernel
theorem d_Pages_undoChanges_40 : decode b_Pages_undoChanges 40 = .ok (.iload_n 2, 1) := by decide +kernel
theorem d_Pages_undoChanges_41 : decode b_Pages_undoChanges 41 = .ok (.iconst 0, 1) := by decide +kernel
theorem d_Pages_undoChanges_42 : decode b_Pages_undoChanges 42 = .ok (.bastore, 1) := by decide +kernel
theorem d_Pages_undoChanges_43 : decode b_Pages_undoChanges 43 = .ok (.iinc 2 1, 3) := by decide +kernel
theorem d_Pages_undoChanges_46 : decode b_Pages_undoChanges 46 = .ok (.goto (-44), 3) := by decide +kernel
theorem d_Pages_undoChanges_49 : decode b_Pages_undoChanges 49 = .ok (.return_, 1) := by decide +kernel
theorem d_Pages_used_0 : decode b_Pages_used 0 = .ok (.aload_n 0, 1) := by decide +kernel
theorem d_Pages_used_1 : decode b_Pages_used 1 = .ok (.iconst 0, 1) := by decide +kernel
theorem d_Pages_used_2 : decode b_Pages_used 2 = .ok (.invokevirtual 26, 3) := by decide +kernel
theorem d_Pages_used_5 : decode b_Pages_used 5 = .ok (.sipush 2711, 3) := by decide +kernel
theorem d_Pages_used_8 : decode b_Pages_used 8 = .ok (.invokestatic 30, 3) := by decide +kernel
theorem d_Pages_used_11 : decode b_Pages_used 11 = .ok (.ireturn, 1) := by decide +kernel
theorem d_Pages_saveTo_0 : decode b_Pages_saveTo 0 = .ok (.aload_n 0, 1) := by decide +kernel
theorem d_Pages_saveTo_1 : decode b_Pages_saveTo 1 = .ok (.getfield 10, 3) := by decide +kernel
theorem d_Pages_saveTo_4 : decode b_Pages_saveTo 4 = .ok (.iconst 0, 1) := by decide +kernel
theorem d_Pages_saveTo_5 : decode b_Pages_saveTo 5 = .ok (.aload_n 1, 1) := by decide +kernel
theorem d_Pages_saveTo_6 : decode b_Pages_saveTo 6 = .ok (.iconst 0, 1) := by decide +kernel
theorem d_Pages_saveTo_7 : decode b_Pages_saveTo 7 = .ok (.sipush 288, 3) := by decide +kernel
theorem d_Pages_saveTo_10 : decode b_Pages_saveTo 10 = .ok (.aload_n 0, 1) := by decide +kernel
theorem d_Pages_saveTo_11 : decode b_Pages_saveTo 11 = .ok (.invokevirtual 36, 3) := by decide +kernel
theorem d_Pages_saveTo_14 : decode b_Pages_saveTo 14 = .ok (.bipush 32, 2) := by decide +kernel
theorem d_Pages_saveTo_16 : decode b_Pages_saveTo 16 = .ok (.imul, 1) := by decide +kernel
theorem d_Pages_saveTo_17 : decode b_Pages_saveTo 17 = .ok (.iadd, 1) := by decide +kernel
theorem d_Pages_saveTo_18 : decode b_Pages_saveTo 18 = .ok (.invokestatic 20, 3) := by decide +kernel
theorem d_Pages_saveTo_21 : decode b_Pages_saveTo 21 = .ok (.return_, 1) := by decide +kernel
theorem d_Pages_load_0 : decode b_Pages_load 0 = .ok (.aload_n 1, 1) := by decide +kernel
theorem d_Pages_load_1 : decode b_Pages_load 1 = .ok (.iconst 0, 1) := by decide +kernel
theorem d_Pages_load_2 : decode b_Pages_load 2 = .ok (.aload_n 0, 1) := by decide +kernel
theorem d_Pages_load_3 : decode b_Pages_load 3 = .ok (.getfield 10, 3) := by decide +kernel
theorem d_Pages_load_6 : decode b_Pages_load 6 = .ok (.iconst 0, 1) := by decide +kernel
theorem d_Pages_load_7 : decode b_Pages_load 7 = .ok (.sipush 288, 3) := by decide +kernel
theorem d_Pages_load_10 : decode b_Pages_load 10 = .ok (.invokestatic 20, 3) := by decide +kernel
theorem d_Pages_load_13 : decode b_Pages_load 13 = .ok (.aload_n 1, 1) := by decide +kernel
theorem d_Pages_load_14 : decode b_Pages_load 14 = .ok (.sipush 288, 3) := by decide +kernel
theorem d_Pages_load_17 : decode b_Pages_load 17 = .ok (.aload_n 0, 1) := by decide +kernel
theorem d_Pages_load_18 : decode b_Pages_load 18 = .ok (.getfield 10, 3) := by decide +kernel
theorem d_Pages_load_21 : decode b_Pages_load 21 = .ok (.sipush 288, 3) := by decide +kernel
theorem d_Pages_load_24 : decode b_Pages_load 24 = .ok (.aload_n 0, 1) := by decide +kernel
theorem d_Pages_load_25 : decode b_Pages_load 25 = .ok (.invokevirtual 36, 3) := by decide +kernel
theorem d_Pages_load_28 : decode b_Pages_load 28 = .ok (.bipush 32, 2) := by decide +kernel
theorem d_Pages_load_30 : decode b_Pages_load 30 = .ok (.imul, 1) := by decide +kernel
theorem d_Pages_load_31 : decode b_Pages_load 31 = .ok (.invokestatic 20, 3) := by decide +kernel
theorem d_Pages_load_34 : decode b_Pages_load 34 = .ok (.return_, 1) := by decide +kernel
theorem d_Pages_number_0 : decode b_Pages_number 0 = .ok (.iload_n 1, 1) := by decide +kernel
theorem d_Pages_number_1 : decode b_Pages_number 1 = .ok (.ifCond .lt 9, 3) := by decide +kernel
theorem d_Pages_number_4 : decode b_Pages_number 4 = .ok (.iload_n 1, 1) := by decide +kernel
theorem d_Pages_number_5 : decode b_Pages_number 5 = .ok (.ldc 40, 2) := by decide +kernel
theorem d_Pages_number_7 : decode b_Pages_number 7 = .ok (.if_icmp .le 5, 3) := by decide +kernel
theorem d_Pages_number_10 : decode b_Pages_number 10 = .ok (.iconst 0, 1) := by decide +kernel
theorem d_Pages_number_11 : decode b_Pages_number 11 = .ok (.ireturn, 1) := by decide +kernel
theorem d_Pages_number_12 : decode b_Pages_number 12 = .ok (.aload_n 0, 1) := by decide +kernel
theorem d_Pages_number_13 : decode b_Pages_number 13 = .ok (.getfield 10, 3) := by decide +kernel
theorem d_Pages_number_16 : decode b_Pages_number 16 = .ok (.iload_n 1, 1) := by decide +kernel
theorem d_Pages_number_17 : decode b_Pages_number 17 = .ok (.baload, 1) := by decide +kernel
theorem d_Pages_number_18 : decode b_Pages_number 18 = .ok (.sipush 255, 3) := by decide +kernel
theorem d_Pages_number_21 : decode b_Pages_number 21 = .ok (.iand, 1) := by decide +kernel
theorem d_Pages_number_22 : decode b_Pages_number 22 = .ok (.bipush 8, 2) := by decide +kernel
theorem d_Pages_number_24 : decode b_Pages_number 24 = .ok (.ishl, 1) := by decide +kernel
theorem d_Pages_number_25 : decode b_Pages_number 25 = .ok (.aload_n 0, 1) := by decide +kernel
theorem d_Pages_number_26 : decode b_Pages_number 26 = .ok (.getfield 10, 3) := by decide +kernel
theorem d_Pages_number_29 : decode b_Pages_number 29 = .ok (.iload_n 1, 1) := by decide +kernel
theorem d_Pages_number_30 : decode b_Pages_number 30 = .ok (.iconst 1, 1) := by decide +kernel
theorem d_Pages_number_31 : decode b_Pages_number 31 = .ok (.iadd, 1) := by decide +kernel
theorem d_Pages_number_32 : decode b_Pages_number 32 = .ok (.baload, 1) := by decide +kernel
theorem d_Pages_number_33 : decode b_Pages_number 33 = .ok (.sipush 255, 3) := by decide +kernel
theorem d_Pages_number_36 : decode b_Pages_number 36 = .ok (.iand, 1) := by decide +kernel
theorem d_Pages_number_37 : decode b_Pages_number 37 = .ok (.ior, 1) := by decide +kernel
theorem d_Pages_number_38 : decode b_Pages_number 38 = .ok (.ireturn, 1) := by decide +kernel
theorem d_Pages_setNumber_0 : decode b_Pages_setNumber 0 = .ok (.iload_n 1, 1) := by decide +kernel
theorem d_Pages_setNumber_1 : decode b_Pages_setNumber 1 = .ok (.ifCond .lt 9, 3) := by decide +kernel
theorem d_Pages_setNumber_4 : decode b_Pages_setNumber 4 = .ok (.iload_n 1, 1) := by decide +kernel
theorem d_Pages_setNumber_5 : decode b_Pages_setNumber 5 = .ok (.ldc 40, 2) := by decide +kernel
theorem d_Pages_setNumber_7 : decode b_Pages_setNumber 7 = .ok (.if_icmp .le 4, 3) := by decide +kernel
theorem d_Pages_setNumber_10 : decode b_Pages_setNumber 10 = .ok (.return_, 1) := by decide +kernel
theorem d_Pages_setNumber_11 : decode b_Pages_setNumber 11 = .ok (.aload_n 0, 1) := by decide +kernel
theorem d_Pages_setNumber_12 : decode b_Pages_setNumber 12 = .ok (.getfield 10, 3) := by decide +kernel
theorem d_Pages_setNumber_15 : decode b_Pages_setNumber 15 = .ok (.iload_n 1, 1) := by decide +kernel
theorem d_Pages_setNumber_16 : decode b_Pages_setNumber 16 = .ok (.iload_n 2, 1) := by decide +kernel
theorem d_Pages_setNumber_17 : decode b_Pages_setNumber 17 = .ok (.bipush 8, 2) := by decide +kernel
theorem d_Pages_setNumber_19 : decode b_Pages_setNumber 19 = .ok (.ishr, 1) := by decide +kernel
theorem d_Pages_setNumber_20 : decode b_Pages_setNumber 20 = .ok (.i2b, 1) := by decide +kernel
theorem d_Pages_setNumber_21 : decode b_Pages_setNumber 21 = .ok (.bastore, 1) := by decide +kernel
theorem d_Pages_setNumber_22 : decode b_Pages_setNumber 22 = .ok (.aload_n 0, 1) := by decide +kernel
theorem d_Pages_setNumber_23 : decode b_Pages_setNumber 23 = .ok (.getfield 10, 3) := by decide +kernel
theorem d_Pages_setNumber_26 : decode b_Pages_setNumber 26 = .ok (.iload_n 1, 1) := by decide +kernel
theorem d_Pages_setNumber_27 : decode b_Pages_setNumber 27 = .ok (.iconst 1, 1) := by decide +kernel
theorem d_Pages_setNumber_28 : decode b_Pages_setNumber 28 = .ok (.iadd, 1) := by decide +kernel
theorem d_Pages_setNumber_29 : decode b_Pages_setNumber 29 = .ok (.iload_n 2, 1) := by decide +kernel
theorem d_Pages_setNumber_30 : decode b_Pages_setNumber 30 = .ok (.i2b, 1) := by decide +kernel
theorem d_Pages_setNumber_31 : decode b_Pages_setNumber 31 = .ok (.bastore, 1) := by decide +kernel
theorem d_Pages_setNumber_32 : decode b_Pages_setNumber 32 = .ok (.aload_n 0, 1) := by decide +kernel
theorem d_Pages_setNumber_33 : decode b_Pages_setNumber 33 = .ok (.getfield 16, 3) := by decide +kernel
theorem d_Pages_setNumber_36 : decode b_Pages_setNumber 36 = .ok (.iload_n 1, 1) := by decide +kernel
theorem d_Pages_setNumber_37 : decode b_Pages_setNumber 37 = .ok (.bipush 32, 2) := by decide +kernel
theorem d_Pages_setNumber_39 : decode b_Pages_setNumber 39 = .ok (.idiv, 1) := by decide +kernel
theorem d_Pages_setNumber_40 : decode b_Pages_setNumber 40 = .ok (.iconst 1, 1) := by decide +kernel
theorem d_Pages_setNumber_41 : decode b_Pages_setNumber 41 = .ok (.bastore, 1) := by decide +kernel
theorem d_Pages_setNumber_42 : decode b_Pages_setNumber 42 = .ok (.return_, 1) := by decide +kernel
theorem d_Pages_addTo_0 : decode b_Pages_addTo 0 = .ok (.aload_n 0, 1) := by decide +kernel
theorem d_Pages_addTo_1 : decode b_Pages_addTo 1 = .ok (.iload_n 1, 1) := by decide +kernel
theorem d_Pages_addTo_2 : decode b_Pages_addTo 2 = .ok (.aload_n 0, 1) := by decide +kernel
theorem d_Pages_addTo_3 : decode b_Pages_addTo 3 = .ok (.iload_n 1, 1) := by decide +kernel
theorem d_Pages_addTo_4 : decode b_Pages_addTo 4 = .ok (.invokevirtual 26, 3) := by decide +kernel
theorem d_Pages_addTo_7 : decode b_Pages_addTo 7 = .ok (.iload_n 2, 1) := by decide +kernel
theorem d_Pages_addTo_8 : decode b_Pages_addTo 8 = .ok (.iadd, 1) := by decide +kernel
theorem d_Pages_addTo_9 : decode b_Pages_addTo 9 = .ok (.invokevirtual 41, 3) := by decide +kernel
theorem d_Pages_addTo_12 : decode b_Pages_addTo 12 = .ok (.return_, 1) := by decide +kernel
theorem d_Pages_write_0 : decode b_Pages_write 0 = .ok (.iload_n 2, 1) := by decide +kernel
theorem d_Pages_write_1 : decode b_Pages_write 1 = .ok (.ifCond .lt 32, 3) := by decide +kernel
theorem d_Pages_write_4 : decode b_Pages_write 4 = .ok (.iload_n 3, 1) := by decide +kernel
theorem d_Pages_write_5 : decode b_Pages_write 5 = .ok (.iconst 1, 1) := by decide +kernel
theorem d_Pages_write_6 : decode b_Pages_write 6 = .ok (.if_icmp .lt 27, 3) := by decide +kernel
theorem d_Pages_write_9 : decode b_Pages_write 9 = .ok (.iload_n 2, 1) := by decide +kernel
theorem d_Pages_write_10 : decode b_Pages_write 10 = .ok (.aload_n 1, 1) := by decide +kernel
theorem d_Pages_write_11 : decode b_Pages_write 11 = .ok (.invokevirtual 45, 3) := by decide +kernel
theorem d_Pages_write_14 : decode b_Pages_write 14 = .ok (.iload_n 3, 1) := by decide +kernel
theorem d_Pages_write_15 : decode b_Pages_write 15 = .ok (.isub, 1) := by decide +kernel
theorem d_Pages_write_16 : decode b_Pages_write 16 = .ok (.if_icmp .gt 17, 3) := by decide +kernel
theorem d_Pages_write_19 : decode b_Pages_write 19 = .ok (.iload 4, 2) := by decide +kernel
theorem d_Pages_write_21 : decode b_Pages_write 21 = .ok (.ifCond .lt 12, 3) := by decide +kernel
theorem d_Pages_write_24 : decode b_Pages_write 24 = .ok (.iload 4, 2) := by decide +kernel
theorem d_Pages_write_26 : decode b_Pages_write 26 = .ok (.ldc 9, 2) := by decide +kernel
theorem d_Pages_write_28 : decode b_Pages_write 28 = .ok (.iload_n 3, 1) := by decide +kernel
theorem d_Pages_write_29 : decode b_Pages_write 29 = .ok (.isub, 1) := by decide +kernel
theorem d_Pages_write_30 : decode b_Pages_write 30 = .ok (.if_icmp .le 4, 3) := by decide +kernel
theorem d_Pages_write_33 : decode b_Pages_write 33 = .ok (.return_, 1) := by decide +kernel
theorem d_Pages_write_34 : decode b_Pages_write 34 = .ok (.aload_n 1, 1) := by decide +kernel
theorem d_Pages_write_35 : decode b_Pages_write 35 = .ok (.getfield 50, 3) := by decide +kernel
theorem d_Pages_write_38 : decode b_Pages_write 38 = .ok (.iload_n 2, 1) := by decide +kernel
theorem d_Pages_write_39 : decode b_Pages_write 39 = .ok (.aload_n 0, 1) := by decide +kernel
theorem d_Pages_write_40 : decode b_Pages_write 40 = .ok (.getfield 10, 3) := by decide +kernel
theorem d_Pages_write_43 : decode b_Pages_write 43 = .ok (.iload 4, 2) := by decide +kernel
theorem d_Pages_write_45 : decode b_Pages_write 45 = .ok (.iload_n 3, 1) := by decide +kernel
theorem d_Pages_write_46 : decode b_Pages_write 46 = .ok (.invokestatic 20, 3) := by decide +kernel
theorem d_Pages_write_49 : decode b_Pages_write 49 = .ok (.aload_n 0, 1) := by decide +kernel
theorem d_Pages_write_50 : decode b_Pages_write 50 = .ok (.getfield 16, 3) := by decide +kernel
theorem d_Pages_write_53 : decode b_Pages_write 53 = .ok (.iload 4, 2) := by decide +kernel
theorem d_Pages_write_55 : decode b_Pages_write 55 = .ok (.bipush 32, 2) := by decide +kernel
theorem d_Pages_write_57 : decode b_Pages_write 57 = .ok (.idiv, 1) := by decide +kernel
theorem d_Pages_write_58 : decode b_Pages_write 58 = .ok (.iconst 1, 1) := by decide +kernel
theorem d_Pages_write_59 : decode b_Pages_write 59 = .ok (.bastore, 1) := by decide +kernel
theorem d_Pages_write_60 : decode b_Pages_write 60 = .ok (.return_, 1) := by decide +kernel
theorem d_Pages_newPage_0 : decode b_Pages_newPage 0 = .ok (.aload_n 0, 1) := by decide +kernel
theorem d_Pages_newPage_1 : decode b_Pages_newPage 1 = .ok (.iconst 2, 1) := by decide +kernel
theorem d_Pages_newPage_2 : decode b_Pages_newPage 2 = .ok (.invokevirtual 26, 3) := by decide +kernel
theorem d_Pages_newPage_5 : decode b_Pages_newPage 5 = .ok (.istore_n 1, 1) := by decide +kernel
theorem d_Pages_newPage_6 : decode b_Pages_newPage 6 = .ok (.iload_n 1, 1) := by decide +kernel
theorem d_Pages_newPage_7 : decode b_Pages_newPage 7 = .ok (.ifCond .eq 25, 3) := by decide +kernel
theorem d_Pages_newPage_10 : decode b_Pages_newPage 10 = .ok (.aload_n 0, 1) := by decide +kernel
theorem d_Pages_newPage_11 : decode b_Pages_newPage 11 = .ok (.iconst 2, 1) := by decide +kernel
theorem d_Pages_newPage_12 : decode b_Pages_newPage 12 = .ok (.aload_n 0, 1) := by decide +kernel
theorem d_Pages_newPage_13 : decode b_Pages_newPage 13 = .ok (.iload_n 1, 1) := by decide +kernel
theorem d_Pages_newPage_14 : decode b_Pages_newPage 14 = .ok (.bipush 32, 2) := by decide +kernel
theorem d_Pages_newPage_16 : decode b_Pages_newPage 16 = .ok (.imul, 1) := by decide +kernel
theorem d_Pages_newPage_17 : decode b_Pages_newPage 17 = .ok (.invokevirtual 26, 3) := by decide +kernel
theorem d_Pages_newPage_20 : decode b_Pages_newPage 20 = .ok (.invokevirtual 41, 3) := by decide +kernel
theorem d_Pages_newPage_23 : decode b_Pages_newPage 23 = .ok (.aload_n 0, 1) := by decide +kernel
theorem d_Pages_newPage_24 : decode b_Pages_newPage 24 = .ok (.iconst 4, 1) := by decide +kernel
theorem d_Pages_newPage_25 : decode b_Pages_newPage 25 = .ok (.iconst (-1), 1) := by decide +kernel
theorem d_Pages_newPage_26 : decode b_Pages_newPage 26 = .ok (.invokevirtual 51, 3) := by decide +kernel
theorem d_Pages_newPage_29 : decode b_Pages_newPage 29 = .ok (.goto 17, 3) := by decide +kernel
theorem d_Pages_newPage_32 : decode b_Pages_newPage 32 = .ok (.bipush 9, 2) := by decide +kernel
theorem d_Pages_newPage_34 : decode b_Pages_newPage 34 = .ok (.aload_n 0, 1) := by decide +kernel
theorem d_Pages_newPage_35 : decode b_Pages_newPage 35 = .ok (.invokevirtual 36, 3) := by decide +kernel
theorem d_Pages_newPage_38 : decode b_Pages_newPage 38 = .ok (.iadd, 1) := by decide +kernel
theorem d_Pages_newPage_39 : decode b_Pages_newPage 39 = .ok (.istore_n 1, 1) := by decide +kernel
theorem d_Pages_newPage_40 : decode b_Pages_newPage 40 = .ok (.aload_n 0, 1) := by decide +kernel
theorem d_Pages_newPage_41 : decode b_Pages_newPage 41 = .ok (.iconst 0, 1) := by decide +kernel
theorem d_Pages_newPage_42 : decode b_Pages_newPage 42 = .ok (.iconst 1, 1) := by decide +kernel
theorem d_Pages_newPage_43 : decode b_Pages_newPage 43 = .ok (.invokevirtual 51, 3) := by decide +kernel
theorem d_Pages_newPage_46 : decode b_Pages_newPage 46 = .ok (.aload_n 0, 1) := by decide +kernel
theorem d_Pages_newPage_47 : decode b_Pages_newPage 47 = .ok (.iload_n 1, 1) := by decide +kernel
theorem d_Pages_newPage_48 : decode b_Pages_newPage 48 = .ok (.bipush 32, 2) := by decide +kernel
theorem d_Pages_newPage_50 : decode b_Pages_newPage 50 = .ok (.imul, 1) := by decide +kernel
theorem d_Pages_newPage_51 : decode b_Pages_newPage 51 = .ok (.iconst 0, 1) := by decide +kernel
theorem d_Pages_newPage_52 : decode b_Pages_newPage 52 = .ok (.invokevirtual 41, 3) := by decide +kernel
theorem d_Pages_newPage_55 : decode b_Pages_newPage 55 = .ok (.aload_n 0, 1) := by decide +kernel
theorem d_Pages_newPage_56 : decode b_Pages_newPage 56 = .ok (.iload_n 1, 1) := by decide +kernel
theorem d_Pages_newPage_57 : decode b_Pages_newPage 57 = .ok (.bipush 32, 2) := by decide +kernel
theorem d_Pages_newPage_59 : decode b_Pages_newPage 59 = .ok (.imul, 1) := by decide +kernel
theorem d_Pages_newPage_60 : decode b_Pages_newPage 60 = .ok (.iconst 2, 1) := by decide +kernel
theorem d_Pages_newPage_61 : decode b_Pages_newPage 61 = .ok (.iadd, 1) := by decide +kernel
theorem d_Pages_newPage_62 : decode b_Pages_newPage 62 = .ok (.iconst 0, 1) := by decide +kernel
theorem d_Pages_newPage_63 : decode b_Pages_newPage 63 = .ok (.invokevirtual 41, 3) := by decide +kernel
theorem d_Pages_newPage_66 : decode b_Pages_newPage 66 = .ok (.iload_n 1, 1) := by decide +kernel
theorem d_Pages_newPage_67 : decode b_Pages_newPage 67 = .ok (.ireturn, 1) := by decide +kernel
theorem d_Pages_freePage_0 : decode b_Pages_freePage 0 = .ok (.aload_n 0, 1) := by decide +kernel
theorem d_Pages_freePage_1 : decode b_Pages_freePage 1 = .ok (.iload_n 1, 1) := by decide +kernel
theorem d_Pages_freePage_2 : decode b_Pages_freePage 2 = .ok (.bipush 32, 2) := by decide +kernel
theorem d_Pages_freePage_4 : decode b_Pages_freePage 4 = .ok (.imul, 1) := by decide +kernel
theorem d_Pages_freePage_5 : decode b_Pages_freePage 5 = .ok (.aload_n 0, 1) := by decide +kernel
theorem d_Pages_freePage_6 : decode b_Pages_freePage 6 = .ok (.iconst 2, 1) := by decide +kernel
theorem d_Pages_freePage_7 : decode b_Pages_freePage 7 = .ok (.invokevirtual 26, 3) := by decide +kernel
theorem d_Pages_freePage_10 : decode b_Pages_freePage 10 = .ok (.invokevirtual 41, 3) := by decide +kernel
theorem d_Pages_freePage_13 : decode b_Pages_freePage 13 = .ok (.aload_n 0, 1) := by decide +kernel
theorem d_Pages_freePage_14 : decode b_Pages_freePage 14 = .ok (.iconst 2, 1) := by decide +kernel
theorem d_Pages_freePage_15 : decode b_Pages_freePage 15 = .ok (.iload_n 1, 1) := by decide +kernel
theorem d_Pages_freePage_16 : decode b_Pages_freePage 16 = .ok (.invokevirtual 41, 3) := by decide +kernel
theorem d_Pages_freePage_19 : decode b_Pages_freePage 19 = .ok (.aload_n 0, 1) := by decide +kernel
theorem d_Pages_freePage_20 : decode b_Pages_freePage 20 = .ok (.iconst 4, 1) := by decide +kernel
theorem d_Pages_freePage_21 : decode b_Pages_freePage 21 = .ok (.iconst 1, 1) := by decide +kernel
theorem d_Pages_freePage_22 : decode b_Pages_freePage 22 = .ok (.invokevirtual 51, 3) := by decide +kernel
theorem d_Pages_freePage_25 : decode b_Pages_freePage 25 = .ok (.return_, 1) := by decide +kernel
theorem d_Row_init_0 : decode b_Row_init 0 = .ok (.aload_n 0, 1) := by decide +kernel
theorem d_Row_init_1 : decode b_Row_init 1 = .ok (.invokespecial 3, 3) := by decide +kernel
theorem d_Row_init_4 : decode b_Row_init 4 = .ok (.aload_n 0, 1) := by decide +kernel
theorem d_Row_init_5 : decode b_Row_init 5 = .ok (.sipush 8448, 3) := by decide +kernel
theorem d_Row_init_8 : decode b_Row_init 8 = .ok (.newarray .byte, 2) := by decide +kernel
theorem d_Row_init_10 : decode b_Row_init 10 = .ok (.putfield 9, 3) := by decide +kernel
theorem d_Row_init_13 : decode b_Row_init 13 = .ok (.aload_n 0, 1) := by decide +kernel
theorem d_Row_init_14 : decode b_Row_init 14 = .ok (.iconst 0, 1) := by decide +kernel
theorem d_Row_init_15 : decode b_Row_init 15 = .ok (.putfield 15, 3) := by decide +kernel
theorem d_Row_init_18 : decode b_Row_init 18 = .ok (.return_, 1) := by decide +kernel
theorem d_Row_length_0 : decode b_Row_length 0 = .ok (.aload_n 0, 1) := by decide +kernel
theorem d_Row_length_1 : decode b_Row_length 1 = .ok (.getfield 15, 3) := by decide +kernel
theorem d_Row_length_4 : decode b_Row_length 4 = .ok (.ireturn, 1) := by decide +kernel
theorem d_Row_clear_0 : decode b_Row_clear 0 = .ok (.aload_n 0, 1) := by decide +kernel
theorem d_Row_clear_1 : decode b_Row_clear 1 = .ok (.iconst 0, 1) := by decide +kernel
theorem d_Row_clear_2 : decode b_Row_clear 2 = .ok (.putfield 15, 3) := by decide +kernel
theorem d_Row_clear_5 : decode b_Row_clear 5 = .ok (.return_, 1) := by decide +kernel
theorem d_Row_hasRoom_0 : decode b_Row_hasRoom 0 = .ok (.iload_n 1, 1) := by decide +kernel
theorem d_Row_hasRoom_1 : decode b_Row_hasRoom 1 = .ok (.ifCond .lt 19, 3) := by decide +kernel
theorem d_Row_hasRoom_4 : decode b_Row_hasRoom 4 = .ok (.iload_n 1, 1) := by decide +kernel
theorem d_Row_hasRoom_5 : decode b_Row_hasRoom 5 = .ok (.sipush 8448, 3) := by decide +kernel
theorem d_Row_hasRoom_8 : decode b_Row_hasRoom 8 = .ok (.aload_n 0, 1) := by decide +kernel
theorem d_Row_hasRoom_9 : decode b_Row_hasRoom 9 = .ok (.getfield 15, 3) := by decide +kernel
theorem d_Row_hasRoom_12 : decode b_Row_hasRoom 12 = .ok (.isub, 1) := by decide +kernel
theorem d_Row_hasRoom_13 : decode b_Row_hasRoom 13 = .ok (.if_icmp .gt 7, 3) := by decide +kernel
theorem d_Row_hasRoom_16 : decode b_Row_hasRoom 16 = .ok (.iconst 1, 1) := by decide +kernel
theorem d_Row_hasRoom_17 : decode b_Row_hasRoom 17 = .ok (.goto 4, 3) := by decide +kernel
theorem d_Row_hasRoom_20 : decode b_Row_hasRoom 20 = .ok (.iconst 0, 1) := by decide +kernel
theorem d_Row_hasRoom_21 : decode b_Row_hasRoom 21 = .ok (.ireturn, 1) := by decide +kernel
theorem d_Row_append_0 : decode b_Row_append 0 = .ok (.aload_n 0, 1) := by decide +kernel
theorem d_Row_append_1 : decode b_Row_append 1 = .ok (.iload_n 3, 1) := by decide +kernel
theorem d_Row_append_2 : decode b_Row_append 2 = .ok (.invokevirtual 19, 3) := by decide +kernel
theorem d_Row_append_5 : decode b_Row_append 5 = .ok (.ifCond .ne 4, 3) := by decide +kernel
theorem d_Row_append_8 : decode b_Row_append 8 = .ok (.return_, 1) := by decide +kernel
theorem d_Row_append_9 : decode b_Row_append 9 = .ok (.iload_n 3, 1) := by decide +kernel
theorem d_Row_append_10 : decode b_Row_append 10 = .ok (.iconst 1, 1) := by decide +kernel
theorem d_Row_append_11 : decode b_Row_append 11 = .ok (.isub, 1) := by decide +kernel
theorem d_Row_append_12 : decode b_Row_append 12 = .ok (.istore 4, 2) := by decide +kernel
theorem d_Row_append_14 : decode b_Row_append 14 = .ok (.iload 4, 2) := by decide +kernel
theorem d_Row_append_16 : decode b_Row_append 16 = .ok (.ifCond .lt 37, 3) := by decide +kernel
theorem d_Row_append_19 : decode b_Row_append 19 = .ok (.aload_n 0, 1) := by decide +kernel
theorem d_Row_append_20 : decode b_Row_append 20 = .ok (.getfield 9, 3) := by decide +kernel
theorem d_Row_append_23 : decode b_Row_append 23 = .ok (.aload_n 0, 1) := by decide +kernel
theorem d_Row_append_24 : decode b_Row_append 24 = .ok (.getfield 15, 3) := by decide +kernel
theorem d_Row_append_27 : decode b_Row_append 27 = .ok (.lload_n 1, 1) := by decide +kernel
theorem d_Row_append_28 : decode b_Row_append 28 = .ok (.bipush 8, 2) := by decide +kernel
theorem d_Row_append_30 : decode b_Row_append 30 = .ok (.iload 4, 2) := by decide +kernel
theorem d_Row_append_32 : decode b_Row_append 32 = .ok (.imul, 1) := by decide +kernel
theorem d_Row_append_33 : decode b_Row_append 33 = .ok (.lshr, 1) := by decide +kernel
theorem d_Row_append_34 : decode b_Row_append 34 = .ok (.l2i, 1) := by decide +kernel
theorem d_Row_append_35 : decode b_Row_append 35 = .ok (.i2b, 1) := by decide +kernel
theorem d_Row_append_36 : decode b_Row_append 36 = .ok (.bastore, 1) := by decide +kernel
theorem d_Row_append_37 : decode b_Row_append 37 = .ok (.aload_n 0, 1) := by decide +kernel
theorem d_Row_append_38 : decode b_Row_append 38 = .ok (.dup, 1) := by decide +kernel
theorem d_Row_append_39 : decode b_Row_append 39 = .ok (.getfield 15, 3) := by decide +kernel
theorem d_Row_append_42 : decode b_Row_append 42 = .ok (.iconst 1, 1) := by decide +kernel
theorem d_Row_append_43 : decode b_Row_append 43 = .ok (.iadd, 1) := by decide +kernel
theorem d_Row_append_44 : decode b_Row_append 44 = .ok (.putfield 15, 3) := by decide +kernel
theorem d_Row_append_47 : decode b_Row_append 47 = .ok (.iinc 4 (-1), 3) := by decide +kernel
theorem d_Row_append_50 : decode b_Row_append 50 = .ok (.goto (-36), 3) := by decide +kernel
theorem d_Row_append_53 : decode b_Row_append 53 = .ok (.return_, 1) := by decide +kernel
theorem d_Row_appendSame_0 : decode b_Row_appendSame 0 = .ok (.aload_n 0, 1) := by decide +kernel
theorem d_Row_appendSame_1 : decode b_Row_appendSame 1 = .ok (.iload_n 1, 1) := by decide +kernel
theorem d_Row_appendSame_2 : decode b_Row_appendSame 2 = .ok (.invokevirtual 19, 3) := by decide +kernel
theorem d_Row_appendSame_5 : decode b_Row_appendSame 5 = .ok (.ifCond .ne 4, 3) := by decide +kernel
theorem d_Row_appendSame_8 : decode b_Row_appendSame 8 = .ok (.return_, 1) := by decide +kernel
theorem d_Row_appendSame_9 : decode b_Row_appendSame 9 = .ok (.iconst 0, 1) := by decide +kernel
theorem d_Row_appendSame_10 : decode b_Row_appendSame 10 = .ok (.istore_n 3, 1) := by decide +kernel
theorem d_Row_appendSame_11 : decode b_Row_appendSame 11 = .ok (.iload_n 3, 1) := by decide +kernel
theorem d_Row_appendSame_12 : decode b_Row_appendSame 12 = .ok (.iload_n 1, 1) := by decide +kernel
theorem d_Row_appendSame_13 : decode b_Row_appendSame 13 = .ok (.if_icmp .ge 22, 3) := by decide +kernel
theorem d_Row_appendSame_16 : decode b_Row_appendSame 16 = .ok (.aload_n 0, 1) := by decide +kernel
theorem d_Row_appendSame_17 : decode b_Row_appendSame 17 = .ok (.getfield 9, 3) := by decide +kernel
theorem d_Row_appendSame_20 : decode b_Row_appendSame 20 = .ok (.aload_n 0, 1) := by decide +kernel
theorem d_Row_appendSame_21 : decode b_Row_appendSame 21 = .ok (.getfield 15, 3) := by decide +kernel
theorem d_Row_appendSame_24 : decode b_Row_appendSame 24 = .ok (.iload_n 3, 1) := by decide +kernel
theorem d_Row_appendSame_25 : decode b_Row_appendSame 25 = .ok (.iadd, 1) := by decide +kernel
theorem d_Row_appendSame_26 : decode b_Row_appendSame 26 = .ok (.iload_n 2, 1) := by decide +kernel
theorem d_Row_appendSame_27 : decode b_Row_appendSame 27 = .ok (.i2b, 1) := by decide +kernel
theorem d_Row_appendSame_28 : decode b_Row_appendSame 28 = .ok (.bastore, 1) := by decide +kernel
theorem d_Row_appendSame_29 : decode b_Row_appendSame 29 = .ok (.iinc 3 1, 3) := by decide +kernel
theorem d_Row_appendSame_32 : decode b_Row_appendSame 32 = .ok (.goto (-21), 3) := by decide +kernel
theorem d_Row_appendSame_35 : decode b_Row_appendSame 35 = .ok (.aload_n 0, 1) := by decide +kernel
theorem d_Row_appendSame_36 : decode b_Row_appendSame 36 = .ok (.dup, 1) := by decide +kernel
theorem d_Row_appendSame_37 : decode b_Row_appendSame 37 = .ok (.getfield 15, 3) := by decide +kernel
theorem d_Row_appendSame_40 : decode b_Row_appendSame 40 = .ok (.iload_n 1, 1) := by decide +kernel
theorem d_Row_appendSame_41 : decode b_Row_appendSame 41 = .ok (.iadd, 1) := by decide +kernel
theorem d_Row_appendSame_42 : decode b_Row_appendSame 42 = .ok (.putfield 15, 3) := by decide +kernel
theorem d_Row_appendSame_45 : decode b_Row_appendSame 45 = .ok (.return_, 1) := by decide +kernel
theorem d_Row_appendFrom_0 : decode b_Row_appendFrom 0 = .ok (.aload_n 0, 1) := by decide +kernel
theorem d_Row_appendFrom_1 : decode b_Row_appendFrom 1 = .ok (.iload_n 3, 1) := by decide +kernel
theorem d_Row_appendFrom_2 : decode b_Row_appendFrom 2 = .ok (.invokevirtual 19, 3) := by decide +kernel
theorem d_Row_appendFrom_5 : decode b_Row_appendFrom 5 = .ok (.ifCond .eq 15, 3) := by decide +kernel
theorem d_Row_appendFrom_8 : decode b_Row_appendFrom 8 = .ok (.iload_n 2, 1) := by decide +kernel
theorem d_Row_appendFrom_9 : decode b_Row_appendFrom 9 = .ok (.ifCond .lt 11, 3) := by decide +kernel
theorem d_Row_appendFrom_12 : decode b_Row_appendFrom 12 = .ok (.iload_n 2, 1) := by decide +kernel
theorem d_Row_appendFrom_13 : decode b_Row_appendFrom 13 = .ok (.aload_n 1, 1) := by decide +kernel
theorem d_Row_appendFrom_14 : decode b_Row_appendFrom 14 = .ok (.arraylength, 1) := by decide +kernel
theorem d_Row_appendFrom_15 : decode b_Row_appendFrom 15 = .ok (.iload_n 3, 1) := by decide +kernel
theorem d_Row_appendFrom_16 : decode b_Row_appendFrom 16 = .ok (.isub, 1) := by decide +kernel
theorem d_Row_appendFrom_17 : decode b_Row_appendFrom 17 = .ok (.if_icmp .le 4, 3) := by decide +kernel
theorem d_Row_appendFrom_20 : decode b_Row_appendFrom 20 = .ok (.return_, 1) := by decide +kernel
theorem d_Row_appendFrom_21 : decode b_Row_appendFrom 21 = .ok (.aload_n 1, 1) := by decide +kernel
theorem d_Row_appendFrom_22 : decode b_Row_appendFrom 22 = .ok (.iload_n 2, 1) := by decide +kernel
theorem d_Row_appendFrom_23 : decode b_Row_appendFrom 23 = .ok (.aload_n 0, 1) := by decide +kernel
theorem d_Row_appendFrom_24 : decode b_Row_appendFrom 24 = .ok (.getfield 9, 3) := by decide +kernel
theorem d_Row_appendFrom_27 : decode b_Row_appendFrom 27 = .ok (.aload_n 0, 1) := by decide +kernel
theorem d_Row_appendFrom_28 : decode b_Row_appendFrom 28 = .ok (.getfield 15, 3) := by decide +kernel
theorem d_Row_appendFrom_31 : decode b_Row_appendFrom 31 = .ok (.iload_n 3, 1) := by decide +kernel
theorem d_Row_appendFrom_32 : decode b_Row_appendFrom 32 = .ok (.invokestatic 23, 3) := by decide +kernel
theorem d_Row_appendFrom_35 : decode b_Row_appendFrom 35 = .ok (.aload_n 0, 1) := by decide +kernel
theorem d_Row_appendFrom_36 : decode b_Row_appendFrom 36 = .ok (.dup, 1) := by decide +kernel
theorem d_Row_appendFrom_37 : decode b_Row_appendFrom 37 = .ok (.getfield 15, 3) := by decide +kernel
theorem d_Row_appendFrom_40 : decode b_Row_appendFrom 40 = .ok (.iload_n 3, 1) := by decide +kernel
theorem d_Row_appendFrom_41 : decode b_Row_appendFrom 41 = .ok (.iadd, 1) := by decide +kernel
theorem d_Row_appendFrom_42 : decode b_Row_appendFrom 42 = .ok (.putfield 15, 3) := by decide +kernel
theorem d_Row_appendFrom_45 : decode b_Row_appendFrom 45 = .ok (.return_, 1) := by decide +kernel
theorem d_Row_become_0 : decode b_Row_become 0 = .ok (.aload_n 0, 1) := by decide +kernel
theorem d_Row_become_1 : decode b_Row_become 1 = .ok (.invokevirtual 29, 3) := by decide +kernel
theorem d_Row_become_4 : decode b_Row_become 4 = .ok (.aload_n 0, 1) := by decide +kernel
theorem d_Row_become_5 : decode b_Row_become 5 = .ok (.aload_n 1, 1) := by decide +kernel
theorem d_Row_become_6 : decode b_Row_become 6 = .ok (.getfield 9, 3) := by decide +kernel
theorem d_Row_become_9 : decode b_Row_become 9 = .ok (.iconst 0, 1) := by decide +kernel
theorem d_Row_become_10 : decode b_Row_become 10 = .ok (.aload_n 1, 1) := by decide +kernel
theorem d_Row_become_11 : decode b_Row_become 11 = .ok (.getfield 15, 3) := by decide +kernel
theorem d_Row_become_14 : decode b_Row_become 14 = .ok (.invokevirtual 32, 3) := by decide +kernel
theorem d_Row_become_17 : decode b_Row_become 17 = .ok (.return_, 1) := by decide +kernel
theorem d_Row_word_0 : decode b_Row_word 0 = .ok (.iload_n 1, 1) := by decide +kernel
theorem d_Row_word_1 : decode b_Row_word 1 = .ok (.ifCond .lt 11, 3) := by decide +kernel
theorem d_Row_word_4 : decode b_Row_word 4 = .ok (.iload_n 1, 1) := by decide +kernel
theorem d_Row_word_5 : decode b_Row_word 5 = .ok (.aload_n 0, 1) := by decide +kernel
theorem d_Row_word_6 : decode b_Row_word 6 = .ok (.getfield 15, 3) := by decide +kernel
theorem d_Row_word_9 : decode b_Row_word 9 = .ok (.if_icmp .lt 5, 3) := by decide +kernel
theorem d_Row_word_12 : decode b_Row_word 12 = .ok (.lconst 0, 1) := by decide +kernel
theorem d_Row_word_13 : decode b_Row_word 13 = .ok (.lreturn, 1) := by decide +kernel
theorem d_Row_word_14 : decode b_Row_word 14 = .ok (.aload_n 0, 1) := by decide +kernel
theorem d_Row_word_15 : decode b_Row_word 15 = .ok (.getfield 15, 3) := by decide +kernel
theorem d_Row_word_18 : decode b_Row_word 18 = .ok (.iload_n 1, 1) := by decide +kernel
theorem d_Row_word_19 : decode b_Row_word 19 = .ok (.bipush 8, 2) := by decide +kernel
theorem d_Row_word_21 : decode b_Row_word 21 = .ok (.iadd, 1) := by decide +kernel
theorem d_Row_word_22 : decode b_Row_word 22 = .ok (.invokestatic 36, 3) := by decide +kernel
theorem d_Row_word_25 : decode b_Row_word 25 = .ok (.istore_n 2, 1) := by decide +kernel
theorem d_Row_word_26 : decode b_Row_word 26 = .ok (.lconst 0, 1) := by decide +kernel
theorem d_Row_word_27 : decode b_Row_word 27 = .ok (.lstore_n 3, 1) := by decide +kernel
theorem d_Row_word_28 : decode b_Row_word 28 = .ok (.iload_n 1, 1) := by decide +kernel
theorem d_Row_word_29 : decode b_Row_word 29 = .ok (.istore 5, 2) := by decide +kernel
theorem d_Row_word_31 : decode b_Row_word 31 = .ok (.iload 5, 2) := by decide +kernel
theorem d_Row_word_33 : decode b_Row_word 33 = .ok (.iload_n 2, 1) := by decide +kernel
theorem d_Row_word_34 : decode b_Row_word 34 = .ok (.if_icmp .ge 27, 3) := by decide +kernel
theorem d_Row_word_37 : decode b_Row_word 37 = .ok (.lload_n 3, 1) := by decide +kernel
theorem d_Row_word_38 : decode b_Row_word 38 = .ok (.bipush 8, 2) := by decide +kernel
theorem d_Row_word_40 : decode b_Row_word 40 = .ok (.lshl, 1) := by decide +kernel
theorem d_Row_word_41 : decode b_Row_word 41 = .ok (.aload_n 0, 1) := by decide +kernel
theorem d_Row_word_42 : decode b_Row_word 42 = .ok (.getfield 9, 3) := by decide +kernel
theorem d_Row_word_45 : decode b_Row_word 45 = .ok (.iload 5, 2) := by decide +kernel
theorem d_Row_word_47 : decode b_Row_word 47 = .ok (.baload, 1) := by decide +kernel
theorem d_Row_word_48 : decode b_Row_word 48 = .ok (.sipush 255, 3) := by decide +kernel
theorem d_Row_word_51 : decode b_Row_word 51 = .ok (.iand, 1) := by decide +kernel
theorem d_Row_word_52 : decode b_Row_word 52 = .ok (.i2l, 1) := by decide +kernel
theorem d_Row_word_53 : decode b_Row_word 53 = .ok (.lor, 1) := by decide +kernel
theorem d_Row_word_54 : decode b_Row_word 54 = .ok (.lstore_n 3, 1) := by decide +kernel
theorem d_Row_word_55 : decode b_Row_word 55 = .ok (.iinc 5 1, 3) := by decide +kernel
theorem d_Row_word_58 : decode b_Row_word 58 = .ok (.goto (-27), 3) := by decide +kernel
theorem d_Row_word_61 : decode b_Row_word 61 = .ok (.lload_n 3, 1) := by decide +kernel
theorem d_Row_word_62 : decode b_Row_word 62 = .ok (.lreturn, 1) := by decide +kernel
theorem d_Row_difference_0 : decode b_Row_difference 0 = .ok (.iload_n 1, 1) := by decide +kernel
theorem d_Row_difference_1 : decode b_Row_difference 1 = .ok (.ifCond .lt 27, 3) := by decide +kernel
theorem d_Row_difference_4 : decode b_Row_difference 4 = .ok (.iload_n 1, 1) := by decide +kernel
theorem d_Row_difference_5 : decode b_Row_difference 5 = .ok (.aload_n 0, 1) := by decide +kernel
theorem d_Row_difference_6 : decode b_Row_difference 6 = .ok (.getfield 15, 3) := by decide +kernel
theorem d_Row_difference_9 : decode b_Row_difference 9 = .ok (.iload_n 2, 1) := by decide +kernel
theorem d_Row_difference_10 : decode b_Row_difference 10 = .ok (.isub, 1) := by decide +kernel
theorem d_Row_difference_11 : decode b_Row_difference 11 = .ok (.if_icmp .gt 17, 3) := by decide +kernel
theorem d_Row_difference_14 : decode b_Row_difference 14 = .ok (.iload 4, 2) := by decide +kernel
theorem d_Row_difference_16 : decode b_Row_difference 16 = .ok (.ifCond .lt 12, 3) := by decide +kernel
theorem d_Row_difference_19 : decode b_Row_difference 19 = .ok (.iload 4, 2) := by decide +kernel
theorem d_Row_difference_21 : decode b_Row_difference 21 = .ok (.aload_n 3, 1) := by decide +kernel
theorem d_Row_difference_22 : decode b_Row_difference 22 = .ok (.arraylength, 1) := by decide +kernel
theorem d_Row_difference_23 : decode b_Row_difference 23 = .ok (.iload_n 2, 1) := by decide +kernel
theorem d_Row_difference_24 : decode b_Row_difference 24 = .ok (.isub, 1) := by decide +kernel
theorem d_Row_difference_25 : decode b_Row_difference 25 = .ok (.if_icmp .le 5, 3) := by decide +kernel
theorem d_Row_difference_28 : decode b_Row_difference 28 = .ok (.iconst 0, 1) := by decide +kernel
theorem d_Row_difference_29 : decode b_Row_difference 29 = .ok (.ireturn, 1) := by decide +kernel
theorem d_Row_difference_30 : decode b_Row_difference 30 = .ok (.iconst 0, 1) := by decide +kernel
theorem d_Row_difference_31 : decode b_Row_difference 31 = .ok (.istore 5, 2) := by decide +kernel
theorem d_Row_difference_33 : decode b_Row_difference 33 = .ok (.iload 5, 2) := by decide +kernel
theorem d_Row_difference_35 : decode b_Row_difference 35 = .ok (.iload_n 2, 1) := by decide +kernel
theorem d_Row_difference_36 : decode b_Row_difference 36 = .ok (.if_icmp .ge 44, 3) := by decide +kernel
theorem d_Row_difference_39 : decode b_Row_difference 39 = .ok (.aload_n 0, 1) := by decide +kernel
theorem d_Row_difference_40 : decode b_Row_difference 40 = .ok (.getfield 9, 3) := by decide +kernel
theorem d_Row_difference_43 : decode b_Row_difference 43 = .ok (.iload_n 1, 1) := by decide +kernel
theorem d_Row_difference_44 : decode b_Row_difference 44 = .ok (.iload 5, 2) := by decide +kernel
theorem d_Row_difference_46 : decode b_Row_difference 46 = .ok (.iadd, 1) := by decide +kernel
theorem d_Row_difference_47 : decode b_Row_difference 47 = .ok (.baload, 1) := by decide +kernel
theorem d_Row_difference_48 : decode b_Row_difference 48 = .ok (.sipush 255, 3) := by decide +kernel
theorem d_Row_difference_51 : decode b_Row_difference 51 = .ok (.iand, 1) := by decide +kernel
theorem d_Row_difference_52 : decode b_Row_difference 52 = .ok (.aload_n 3, 1) := by decide +kernel
theorem d_Row_difference_53 : decode b_Row_difference 53 = .ok (.iload 4, 2) := by decide +kernel
theorem d_Row_difference_55 : decode b_Row_difference 55 = .ok (.iload 5, 2) := by decide +kernel
theorem d_Row_difference_57 : decode b_Row_difference 57 = .ok (.iadd, 1) := by decide +kernel
theorem d_Row_difference_58 : decode b_Row_difference 58 = .ok (.baload, 1) := by decide +kernel
theorem d_Row_difference_59 : decode b_Row_difference 59 = .ok (.sipush 255, 3) := by decide +kernel
theorem d_Row_difference_62 : decode b_Row_difference 62 = .ok (.iand, 1) := by decide +kernel
theorem d_Row_difference_63 : decode b_Row_difference 63 = .ok (.isub, 1) := by decide +kernel
theorem d_Row_difference_64 : decode b_Row_difference 64 = .ok (.istore 6, 2) := by decide +kernel
theorem d_Row_difference_66 : decode b_Row_difference 66 = .ok (.iload 6, 2) := by decide +kernel
theorem d_Row_difference_68 : decode b_Row_difference 68 = .ok (.ifCond .eq 6, 3) := by decide +kernel
theorem d_Row_difference_71 : decode b_Row_difference 71 = .ok (.iload 6, 2) := by decide +kernel
theorem d_Row_difference_73 : decode b_Row_difference 73 = .ok (.ireturn, 1) := by decide +kernel
theorem d_Row_difference_74 : decode b_Row_difference 74 = .ok (.iinc 5 1, 3) := by decide +kernel
theorem d_Row_difference_77 : decode b_Row_difference 77 = .ok (.goto (-44), 3) := by decide +kernel
theorem d_Row_difference_80 : decode b_Row_difference 80 = .ok (.iconst 0, 1) := by decide +kernel
theorem d_Row_difference_81 : decode b_Row_difference 81 = .ok (.ireturn, 1) := by decide +kernel
