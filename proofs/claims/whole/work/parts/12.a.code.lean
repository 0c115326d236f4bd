/-! decode rows -/
theorem d_Model_init_0 : decode b_Model_init 0 = .ok (.aload_n 0, 1) := by decide +kernel
theorem d_Model_init_1 : decode b_Model_init 1 = .ok (.invokespecial 1, 3) := by decide +kernel
theorem d_Model_init_4 : decode b_Model_init 4 = .ok (.aload_n 0, 1) := by decide +kernel
theorem d_Model_init_5 : decode b_Model_init 5 = .ok (.sipush 20600, 3) := by decide +kernel
theorem d_Model_init_8 : decode b_Model_init 8 = .ok (.newarray .int, 2) := by decide +kernel
theorem d_Model_init_10 : decode b_Model_init 10 = .ok (.putfield 7, 3) := by decide +kernel
theorem d_Model_init_13 : decode b_Model_init 13 = .ok (.aload_n 0, 1) := by decide +kernel
theorem d_Model_init_14 : decode b_Model_init 14 = .ok (.sipush 20600, 3) := by decide +kernel
theorem d_Model_init_17 : decode b_Model_init 17 = .ok (.newarray .int, 2) := by decide +kernel
theorem d_Model_init_19 : decode b_Model_init 19 = .ok (.putfield 13, 3) := by decide +kernel
theorem d_Model_init_22 : decode b_Model_init 22 = .ok (.aload_n 0, 1) := by decide +kernel
theorem d_Model_init_23 : decode b_Model_init 23 = .ok (.sipush 20600, 3) := by decide +kernel
theorem d_Model_init_26 : decode b_Model_init 26 = .ok (.newarray .int, 2) := by decide +kernel
theorem d_Model_init_28 : decode b_Model_init 28 = .ok (.putfield 16, 3) := by decide +kernel
theorem d_Model_init_31 : decode b_Model_init 31 = .ok (.aload_n 0, 1) := by decide +kernel
theorem d_Model_init_32 : decode b_Model_init 32 = .ok (.sipush 20600, 3) := by decide +kernel
theorem d_Model_init_35 : decode b_Model_init 35 = .ok (.newarray .int, 2) := by decide +kernel
theorem d_Model_init_37 : decode b_Model_init 37 = .ok (.putfield 19, 3) := by decide +kernel
theorem d_Model_init_40 : decode b_Model_init 40 = .ok (.aload_n 0, 1) := by decide +kernel
theorem d_Model_init_41 : decode b_Model_init 41 = .ok (.sipush 20600, 3) := by decide +kernel
theorem d_Model_init_44 : decode b_Model_init 44 = .ok (.newarray .int, 2) := by decide +kernel
theorem d_Model_init_46 : decode b_Model_init 46 = .ok (.putfield 22, 3) := by decide +kernel
theorem d_Model_init_49 : decode b_Model_init 49 = .ok (.aload_n 0, 1) := by decide +kernel
theorem d_Model_init_50 : decode b_Model_init 50 = .ok (.ldc 25, 2) := by decide +kernel
theorem d_Model_init_52 : decode b_Model_init 52 = .ok (.newarray .byte, 2) := by decide +kernel
theorem d_Model_init_54 : decode b_Model_init 54 = .ok (.putfield 26, 3) := by decide +kernel
theorem d_Model_init_57 : decode b_Model_init 57 = .ok (.aload_n 0, 1) := by decide +kernel
theorem d_Model_init_58 : decode b_Model_init 58 = .ok (.sipush 20300, 3) := by decide +kernel
theorem d_Model_init_61 : decode b_Model_init 61 = .ok (.newarray .int, 2) := by decide +kernel
theorem d_Model_init_63 : decode b_Model_init 63 = .ok (.putfield 30, 3) := by decide +kernel
theorem d_Model_init_66 : decode b_Model_init 66 = .ok (.aload_n 0, 1) := by decide +kernel
theorem d_Model_init_67 : decode b_Model_init 67 = .ok (.bipush 7, 2) := by decide +kernel
theorem d_Model_init_69 : decode b_Model_init 69 = .ok (.newarray .int, 2) := by decide +kernel
theorem d_Model_init_71 : decode b_Model_init 71 = .ok (.putfield 33, 3) := by decide +kernel
theorem d_Model_init_74 : decode b_Model_init 74 = .ok (.aload_n 0, 1) := by decide +kernel
theorem d_Model_init_75 : decode b_Model_init 75 = .ok (.bipush 7, 2) := by decide +kernel
theorem d_Model_init_77 : decode b_Model_init 77 = .ok (.newarray .long, 2) := by decide +kernel
theorem d_Model_init_79 : decode b_Model_init 79 = .ok (.putfield 36, 3) := by decide +kernel
theorem d_Model_init_82 : decode b_Model_init 82 = .ok (.aload_n 0, 1) := by decide +kernel
theorem d_Model_init_83 : decode b_Model_init 83 = .ok (.sipush 8448, 3) := by decide +kernel
theorem d_Model_init_86 : decode b_Model_init 86 = .ok (.newarray .byte, 2) := by decide +kernel
theorem d_Model_init_88 : decode b_Model_init 88 = .ok (.putfield 40, 3) := by decide +kernel
theorem d_Model_init_91 : decode b_Model_init 91 = .ok (.aload_n 0, 1) := by decide +kernel
theorem d_Model_init_92 : decode b_Model_init 92 = .ok (.sipush 8448, 3) := by decide +kernel
theorem d_Model_init_95 : decode b_Model_init 95 = .ok (.newarray .byte, 2) := by decide +kernel
theorem d_Model_init_97 : decode b_Model_init 97 = .ok (.putfield 43, 3) := by decide +kernel
theorem d_Model_init_100 : decode b_Model_init 100 = .ok (.aload_n 0, 1) := by decide +kernel
theorem d_Model_init_101 : decode b_Model_init 101 = .ok (.sipush 8448, 3) := by decide +kernel
theorem d_Model_init_104 : decode b_Model_init 104 = .ok (.newarray .byte, 2) := by decide +kernel
theorem d_Model_init_106 : decode b_Model_init 106 = .ok (.putfield 46, 3) := by decide +kernel
theorem d_Model_init_109 : decode b_Model_init 109 = .ok (.aload_n 0, 1) := by decide +kernel
theorem d_Model_init_110 : decode b_Model_init 110 = .ok (.sipush 8448, 3) := by decide +kernel
theorem d_Model_init_113 : decode b_Model_init 113 = .ok (.newarray .byte, 2) := by decide +kernel
theorem d_Model_init_115 : decode b_Model_init 115 = .ok (.putfield 49, 3) := by decide +kernel
theorem d_Model_init_118 : decode b_Model_init 118 = .ok (.aload_n 0, 1) := by decide +kernel
theorem d_Model_init_119 : decode b_Model_init 119 = .ok (.iconst 4, 1) := by decide +kernel
theorem d_Model_init_120 : decode b_Model_init 120 = .ok (.putfield 52, 3) := by decide +kernel
theorem d_Model_init_123 : decode b_Model_init 123 = .ok (.return_, 1) := by decide +kernel
theorem d_Model_thrown_0 : decode b_Model_thrown 0 = .ok (.aload_n 0, 1) := by decide +kernel
theorem d_Model_thrown_1 : decode b_Model_thrown 1 = .ok (.getfield 56, 3) := by decide +kernel
theorem d_Model_thrown_4 : decode b_Model_thrown 4 = .ok (.ireturn, 1) := by decide +kernel
theorem d_Model_room_0 : decode b_Model_room 0 = .ok (.iload_n 1, 1) := by decide +kernel
theorem d_Model_room_1 : decode b_Model_room 1 = .ok (.ifCond .eq 10, 3) := by decide +kernel
theorem d_Model_room_4 : decode b_Model_room 4 = .ok (.aload_n 0, 1) := by decide +kernel
theorem d_Model_room_5 : decode b_Model_room 5 = .ok (.getfield 59, 3) := by decide +kernel
theorem d_Model_room_8 : decode b_Model_room 8 = .ok (.goto 7, 3) := by decide +kernel
theorem d_Model_room_11 : decode b_Model_room 11 = .ok (.aload_n 0, 1) := by decide +kernel
theorem d_Model_room_12 : decode b_Model_room 12 = .ok (.getfield 62, 3) := by decide +kernel
theorem d_Model_room_15 : decode b_Model_room 15 = .ok (.istore 5, 2) := by decide +kernel
theorem d_Model_room_17 : decode b_Model_room 17 = .ok (.aload_n 0, 1) := by decide +kernel
theorem d_Model_room_18 : decode b_Model_room 18 = .ok (.iload_n 2, 1) := by decide +kernel
theorem d_Model_room_19 : decode b_Model_room 19 = .ok (.iload_n 3, 1) := by decide +kernel
theorem d_Model_room_20 : decode b_Model_room 20 = .ok (.if_icmp .lt 9, 3) := by decide +kernel
theorem d_Model_room_23 : decode b_Model_room 23 = .ok (.iload_n 2, 1) := by decide +kernel
theorem d_Model_room_24 : decode b_Model_room 24 = .ok (.iload 4, 2) := by decide +kernel
theorem d_Model_room_26 : decode b_Model_room 26 = .ok (.if_icmp .le 7, 3) := by decide +kernel
theorem d_Model_room_29 : decode b_Model_room 29 = .ok (.iconst 1, 1) := by decide +kernel
theorem d_Model_room_30 : decode b_Model_room 30 = .ok (.goto 25, 3) := by decide +kernel
theorem d_Model_room_33 : decode b_Model_room 33 = .ok (.aload_n 0, 1) := by decide +kernel
theorem d_Model_room_34 : decode b_Model_room 34 = .ok (.getfield 65, 3) := by decide +kernel
theorem d_Model_room_37 : decode b_Model_room 37 = .ok (.ifCond .ne 13, 3) := by decide +kernel
theorem d_Model_room_40 : decode b_Model_room 40 = .ok (.iload 5, 2) := by decide +kernel
theorem d_Model_room_42 : decode b_Model_room 42 = .ok (.iload_n 2, 1) := by decide +kernel
theorem d_Model_room_43 : decode b_Model_room 43 = .ok (.iadd, 1) := by decide +kernel
theorem d_Model_room_44 : decode b_Model_room 44 = .ok (.sipush 8448, 3) := by decide +kernel
theorem d_Model_room_47 : decode b_Model_room 47 = .ok (.if_icmp .le 7, 3) := by decide +kernel
theorem d_Model_room_50 : decode b_Model_room 50 = .ok (.iconst 2, 1) := by decide +kernel
theorem d_Model_room_51 : decode b_Model_room 51 = .ok (.goto 4, 3) := by decide +kernel
theorem d_Model_room_54 : decode b_Model_room 54 = .ok (.iconst 0, 1) := by decide +kernel
theorem d_Model_room_55 : decode b_Model_room 55 = .ok (.putfield 56, 3) := by decide +kernel
theorem d_Model_room_58 : decode b_Model_room 58 = .ok (.aload_n 0, 1) := by decide +kernel
theorem d_Model_room_59 : decode b_Model_room 59 = .ok (.getfield 56, 3) := by decide +kernel
theorem d_Model_room_62 : decode b_Model_room 62 = .ok (.ifCond .ne 7, 3) := by decide +kernel
theorem d_Model_room_65 : decode b_Model_room 65 = .ok (.iconst 1, 1) := by decide +kernel
theorem d_Model_room_66 : decode b_Model_room 66 = .ok (.goto 4, 3) := by decide +kernel
theorem d_Model_room_69 : decode b_Model_room 69 = .ok (.iconst 0, 1) := by decide +kernel
theorem d_Model_room_70 : decode b_Model_room 70 = .ok (.ireturn, 1) := by decide +kernel
theorem d_Model_come_0 : decode b_Model_come 0 = .ok (.iload_n 1, 1) := by decide +kernel
theorem d_Model_come_1 : decode b_Model_come 1 = .ok (.ifCond .eq 29, 3) := by decide +kernel
theorem d_Model_come_4 : decode b_Model_come 4 = .ok (.aload_n 0, 1) := by decide +kernel
theorem d_Model_come_5 : decode b_Model_come 5 = .ok (.getfield 40, 3) := by decide +kernel
theorem d_Model_come_8 : decode b_Model_come 8 = .ok (.aload_n 0, 1) := by decide +kernel
theorem d_Model_come_9 : decode b_Model_come 9 = .ok (.getfield 59, 3) := by decide +kernel
theorem d_Model_come_12 : decode b_Model_come 12 = .ok (.iload_n 2, 1) := by decide +kernel
theorem d_Model_come_13 : decode b_Model_come 13 = .ok (.i2b, 1) := by decide +kernel
theorem d_Model_come_14 : decode b_Model_come 14 = .ok (.bastore, 1) := by decide +kernel
theorem d_Model_come_15 : decode b_Model_come 15 = .ok (.aload_n 0, 1) := by decide +kernel
theorem d_Model_come_16 : decode b_Model_come 16 = .ok (.dup, 1) := by decide +kernel
theorem d_Model_come_17 : decode b_Model_come 17 = .ok (.getfield 59, 3) := by decide +kernel
theorem d_Model_come_20 : decode b_Model_come 20 = .ok (.iconst 1, 1) := by decide +kernel
theorem d_Model_come_21 : decode b_Model_come 21 = .ok (.iadd, 1) := by decide +kernel
theorem d_Model_come_22 : decode b_Model_come 22 = .ok (.putfield 59, 3) := by decide +kernel
theorem d_Model_come_25 : decode b_Model_come 25 = .ok (.aload_n 0, 1) := by decide +kernel
theorem d_Model_come_26 : decode b_Model_come 26 = .ok (.getfield 59, 3) := by decide +kernel
theorem d_Model_come_29 : decode b_Model_come 29 = .ok (.ireturn, 1) := by decide +kernel
theorem d_Model_come_30 : decode b_Model_come 30 = .ok (.aload_n 0, 1) := by decide +kernel
theorem d_Model_come_31 : decode b_Model_come 31 = .ok (.getfield 43, 3) := by decide +kernel
theorem d_Model_come_34 : decode b_Model_come 34 = .ok (.aload_n 0, 1) := by decide +kernel
theorem d_Model_come_35 : decode b_Model_come 35 = .ok (.getfield 62, 3) := by decide +kernel
theorem d_Model_come_38 : decode b_Model_come 38 = .ok (.iload_n 2, 1) := by decide +kernel
theorem d_Model_come_39 : decode b_Model_come 39 = .ok (.i2b, 1) := by decide +kernel
theorem d_Model_come_40 : decode b_Model_come 40 = .ok (.bastore, 1) := by decide +kernel
theorem d_Model_come_41 : decode b_Model_come 41 = .ok (.aload_n 0, 1) := by decide +kernel
theorem d_Model_come_42 : decode b_Model_come 42 = .ok (.dup, 1) := by decide +kernel
theorem d_Model_come_43 : decode b_Model_come 43 = .ok (.getfield 62, 3) := by decide +kernel
theorem d_Model_come_46 : decode b_Model_come 46 = .ok (.iconst 1, 1) := by decide +kernel
theorem d_Model_come_47 : decode b_Model_come 47 = .ok (.iadd, 1) := by decide +kernel
theorem d_Model_come_48 : decode b_Model_come 48 = .ok (.putfield 62, 3) := by decide +kernel
theorem d_Model_come_51 : decode b_Model_come 51 = .ok (.aload_n 0, 1) := by decide +kernel
theorem d_Model_come_52 : decode b_Model_come 52 = .ok (.getfield 62, 3) := by decide +kernel
theorem d_Model_come_55 : decode b_Model_come 55 = .ok (.ireturn, 1) := by decide +kernel
theorem d_Model_word_0 : decode b_Model_word 0 = .ok (.aload_n 0, 1) := by decide +kernel
theorem d_Model_word_1 : decode b_Model_word 1 = .ok (.iload_n 1, 1) := by decide +kernel
theorem d_Model_word_2 : decode b_Model_word 2 = .ok (.iload 4, 2) := by decide +kernel
theorem d_Model_word_4 : decode b_Model_word 4 = .ok (.iconst 0, 1) := by decide +kernel
theorem d_Model_word_5 : decode b_Model_word 5 = .ok (.bipush 8, 2) := by decide +kernel
theorem d_Model_word_7 : decode b_Model_word 7 = .ok (.invokevirtual 69, 3) := by decide +kernel
theorem d_Model_word_10 : decode b_Model_word 10 = .ok (.ifCond .ne 5, 3) := by decide +kernel
theorem d_Model_word_13 : decode b_Model_word 13 = .ok (.iconst 0, 1) := by decide +kernel
theorem d_Model_word_14 : decode b_Model_word 14 = .ok (.ireturn, 1) := by decide +kernel
theorem d_Model_word_15 : decode b_Model_word 15 = .ok (.iload 4, 2) := by decide +kernel
theorem d_Model_word_17 : decode b_Model_word 17 = .ok (.ifCond .ne 20, 3) := by decide +kernel
theorem d_Model_word_20 : decode b_Model_word 20 = .ok (.iload_n 1, 1) := by decide +kernel
theorem d_Model_word_21 : decode b_Model_word 21 = .ok (.ifCond .eq 11, 3) := by decide +kernel
theorem d_Model_word_24 : decode b_Model_word 24 = .ok (.aload_n 0, 1) := by decide +kernel
theorem d_Model_word_25 : decode b_Model_word 25 = .ok (.iconst 0, 1) := by decide +kernel
theorem d_Model_word_26 : decode b_Model_word 26 = .ok (.putfield 59, 3) := by decide +kernel
theorem d_Model_word_29 : decode b_Model_word 29 = .ok (.goto 8, 3) := by decide +kernel
theorem d_Model_word_32 : decode b_Model_word 32 = .ok (.aload_n 0, 1) := by decide +kernel
theorem d_Model_word_33 : decode b_Model_word 33 = .ok (.iconst 0, 1) := by decide +kernel
theorem d_Model_word_34 : decode b_Model_word 34 = .ok (.putfield 62, 3) := by decide +kernel
theorem d_Model_word_37 : decode b_Model_word 37 = .ok (.iload 4, 2) := by decide +kernel
theorem d_Model_word_39 : decode b_Model_word 39 = .ok (.iconst 1, 1) := by decide +kernel
theorem d_Model_word_40 : decode b_Model_word 40 = .ok (.isub, 1) := by decide +kernel
theorem d_Model_word_41 : decode b_Model_word 41 = .ok (.istore 5, 2) := by decide +kernel
theorem d_Model_word_43 : decode b_Model_word 43 = .ok (.iload 5, 2) := by decide +kernel
theorem d_Model_word_45 : decode b_Model_word 45 = .ok (.ifCond .lt 27, 3) := by decide +kernel
theorem d_Model_word_48 : decode b_Model_word 48 = .ok (.aload_n 0, 1) := by decide +kernel
theorem d_Model_word_49 : decode b_Model_word 49 = .ok (.iload_n 1, 1) := by decide +kernel
theorem d_Model_word_50 : decode b_Model_word 50 = .ok (.lload_n 2, 1) := by decide +kernel
theorem d_Model_word_51 : decode b_Model_word 51 = .ok (.bipush 8, 2) := by decide +kernel
theorem d_Model_word_53 : decode b_Model_word 53 = .ok (.iload 5, 2) := by decide +kernel
theorem d_Model_word_55 : decode b_Model_word 55 = .ok (.imul, 1) := by decide +kernel
theorem d_Model_word_56 : decode b_Model_word 56 = .ok (.lshr, 1) := by decide +kernel
theorem d_Model_word_57 : decode b_Model_word 57 = .ok (.l2i, 1) := by decide +kernel
theorem d_Model_word_58 : decode b_Model_word 58 = .ok (.sipush 255, 3) := by decide +kernel
theorem d_Model_word_61 : decode b_Model_word 61 = .ok (.iand, 1) := by decide +kernel
theorem d_Model_word_62 : decode b_Model_word 62 = .ok (.invokevirtual 73, 3) := by decide +kernel
theorem d_Model_word_65 : decode b_Model_word 65 = .ok (.pop, 1) := by decide +kernel
theorem d_Model_word_66 : decode b_Model_word 66 = .ok (.iinc 5 (-1), 3) := by decide +kernel
theorem d_Model_word_69 : decode b_Model_word 69 = .ok (.goto (-26), 3) := by decide +kernel
theorem d_Model_word_72 : decode b_Model_word 72 = .ok (.iload_n 1, 1) := by decide +kernel
theorem d_Model_word_73 : decode b_Model_word 73 = .ok (.ifCond .eq 10, 3) := by decide +kernel
theorem d_Model_word_76 : decode b_Model_word 76 = .ok (.aload_n 0, 1) := by decide +kernel
theorem d_Model_word_77 : decode b_Model_word 77 = .ok (.getfield 59, 3) := by decide +kernel
theorem d_Model_word_80 : decode b_Model_word 80 = .ok (.goto 7, 3) := by decide +kernel
theorem d_Model_word_83 : decode b_Model_word 83 = .ok (.aload_n 0, 1) := by decide +kernel
theorem d_Model_word_84 : decode b_Model_word 84 = .ok (.getfield 62, 3) := by decide +kernel
theorem d_Model_word_87 : decode b_Model_word 87 = .ok (.ireturn, 1) := by decide +kernel
theorem d_Model_key_0 : decode b_Model_key 0 = .ok (.aload_n 0, 1) := by decide +kernel
theorem d_Model_key_1 : decode b_Model_key 1 = .ok (.iconst 1, 1) := by decide +kernel
theorem d_Model_key_2 : decode b_Model_key 2 = .ok (.lload_n 1, 1) := by decide +kernel
theorem d_Model_key_3 : decode b_Model_key 3 = .ok (.iload_n 3, 1) := by decide +kernel
theorem d_Model_key_4 : decode b_Model_key 4 = .ok (.invokevirtual 77, 3) := by decide +kernel
theorem d_Model_key_7 : decode b_Model_key 7 = .ok (.ireturn, 1) := by decide +kernel
theorem d_Model_value_0 : decode b_Model_value 0 = .ok (.aload_n 0, 1) := by decide +kernel
theorem d_Model_value_1 : decode b_Model_value 1 = .ok (.iconst 0, 1) := by decide +kernel
theorem d_Model_value_2 : decode b_Model_value 2 = .ok (.lload_n 1, 1) := by decide +kernel
theorem d_Model_value_3 : decode b_Model_value 3 = .ok (.iload_n 3, 1) := by decide +kernel
theorem d_Model_value_4 : decode b_Model_value 4 = .ok (.invokevirtual 77, 3) := by decide +kernel
theorem d_Model_value_7 : decode b_Model_value 7 = .ok (.ireturn, 1) := by decide +kernel
theorem d_Model_fill_0 : decode b_Model_fill 0 = .ok (.aload_n 0, 1) := by decide +kernel
theorem d_Model_fill_1 : decode b_Model_fill 1 = .ok (.iload_n 1, 1) := by decide +kernel
theorem d_Model_fill_2 : decode b_Model_fill 2 = .ok (.iload_n 2, 1) := by decide +kernel
theorem d_Model_fill_3 : decode b_Model_fill 3 = .ok (.iconst 0, 1) := by decide +kernel
theorem d_Model_fill_4 : decode b_Model_fill 4 = .ok (.sipush 8448, 3) := by decide +kernel
theorem d_Model_fill_7 : decode b_Model_fill 7 = .ok (.invokevirtual 69, 3) := by decide +kernel
theorem d_Model_fill_10 : decode b_Model_fill 10 = .ok (.ifCond .ne 5, 3) := by decide +kernel
theorem d_Model_fill_13 : decode b_Model_fill 13 = .ok (.iconst 0, 1) := by decide +kernel
theorem d_Model_fill_14 : decode b_Model_fill 14 = .ok (.ireturn, 1) := by decide +kernel
theorem d_Model_fill_15 : decode b_Model_fill 15 = .ok (.iconst 0, 1) := by decide +kernel
theorem d_Model_fill_16 : decode b_Model_fill 16 = .ok (.istore 4, 2) := by decide +kernel
theorem d_Model_fill_18 : decode b_Model_fill 18 = .ok (.iload 4, 2) := by decide +kernel
theorem d_Model_fill_20 : decode b_Model_fill 20 = .ok (.iload_n 2, 1) := by decide +kernel
theorem d_Model_fill_21 : decode b_Model_fill 21 = .ok (.if_icmp .ge 16, 3) := by decide +kernel
theorem d_Model_fill_24 : decode b_Model_fill 24 = .ok (.aload_n 0, 1) := by decide +kernel
theorem d_Model_fill_25 : decode b_Model_fill 25 = .ok (.iload_n 1, 1) := by decide +kernel
theorem d_Model_fill_26 : decode b_Model_fill 26 = .ok (.iload_n 3, 1) := by decide +kernel
theorem d_Model_fill_27 : decode b_Model_fill 27 = .ok (.invokevirtual 73, 3) := by decide +kernel
theorem d_Model_fill_30 : decode b_Model_fill 30 = .ok (.pop, 1) := by decide +kernel
theorem d_Model_fill_31 : decode b_Model_fill 31 = .ok (.iinc 4 1, 3) := by decide +kernel
theorem d_Model_fill_34 : decode b_Model_fill 34 = .ok (.goto (-16), 3) := by decide +kernel
theorem d_Model_fill_37 : decode b_Model_fill 37 = .ok (.iload_n 1, 1) := by decide +kernel
theorem d_Model_fill_38 : decode b_Model_fill 38 = .ok (.ifCond .eq 10, 3) := by decide +kernel
theorem d_Model_fill_41 : decode b_Model_fill 41 = .ok (.aload_n 0, 1) := by decide +kernel
theorem d_Model_fill_42 : decode b_Model_fill 42 = .ok (.getfield 59, 3) := by decide +kernel
theorem d_Model_fill_45 : decode b_Model_fill 45 = .ok (.goto 7, 3) := by decide +kernel
theorem d_Model_fill_48 : decode b_Model_fill 48 = .ok (.aload_n 0, 1) := by decide +kernel
theorem d_Model_fill_49 : decode b_Model_fill 49 = .ok (.getfield 62, 3) := by decide +kernel
theorem d_Model_fill_52 : decode b_Model_fill 52 = .ok (.ireturn, 1) := by decide +kernel
theorem d_Model_size_0 : decode b_Model_size 0 = .ok (.iconst 0, 1) := by decide +kernel
theorem d_Model_size_1 : decode b_Model_size 1 = .ok (.istore_n 1, 1) := by decide +kernel
theorem d_Model_size_2 : decode b_Model_size 2 = .ok (.iconst 0, 1) := by decide +kernel
theorem d_Model_size_3 : decode b_Model_size 3 = .ok (.istore_n 2, 1) := by decide +kernel
theorem d_Model_size_4 : decode b_Model_size 4 = .ok (.iload_n 2, 1) := by decide +kernel
theorem d_Model_size_5 : decode b_Model_size 5 = .ok (.aload_n 0, 1) := by decide +kernel
theorem d_Model_size_6 : decode b_Model_size 6 = .ok (.getfield 33, 3) := by decide +kernel
theorem d_Model_size_9 : decode b_Model_size 9 = .ok (.iconst 0, 1) := by decide +kernel
theorem d_Model_size_10 : decode b_Model_size 10 = .ok (.iaload, 1) := by decide +kernel
theorem d_Model_size_11 : decode b_Model_size 11 = .ok (.if_icmp .ge 38, 3) := by decide +kernel
theorem d_Model_size_14 : decode b_Model_size 14 = .ok (.iload_n 1, 1) := by decide +kernel
theorem d_Model_size_15 : decode b_Model_size 15 = .ok (.bipush 16, 2) := by decide +kernel
theorem d_Model_size_17 : decode b_Model_size 17 = .ok (.aload_n 0, 1) := by decide +kernel
theorem d_Model_size_18 : decode b_Model_size 18 = .ok (.getfield 16, 3) := by decide +kernel
theorem d_Model_size_21 : decode b_Model_size 21 = .ok (.aload_n 0, 1) := by decide +kernel
theorem d_Model_size_22 : decode b_Model_size 22 = .ok (.getfield 30, 3) := by decide +kernel
theorem d_Model_size_25 : decode b_Model_size 25 = .ok (.iload_n 2, 1) := by decide +kernel
theorem d_Model_size_26 : decode b_Model_size 26 = .ok (.iaload, 1) := by decide +kernel
theorem d_Model_size_27 : decode b_Model_size 27 = .ok (.iaload, 1) := by decide +kernel
theorem d_Model_size_28 : decode b_Model_size 28 = .ok (.iadd, 1) := by decide +kernel
theorem d_Model_size_29 : decode b_Model_size 29 = .ok (.aload_n 0, 1) := by decide +kernel
theorem d_Model_size_30 : decode b_Model_size 30 = .ok (.getfield 19, 3) := by decide +kernel
theorem d_Model_size_33 : decode b_Model_size 33 = .ok (.aload_n 0, 1) := by decide +kernel
theorem d_Model_size_34 : decode b_Model_size 34 = .ok (.getfield 30, 3) := by decide +kernel
theorem d_Model_size_37 : decode b_Model_size 37 = .ok (.iload_n 2, 1) := by decide +kernel
theorem d_Model_size_38 : decode b_Model_size 38 = .ok (.iaload, 1) := by decide +kernel
theorem d_Model_size_39 : decode b_Model_size 39 = .ok (.iaload, 1) := by decide +kernel
theorem d_Model_size_40 : decode b_Model_size 40 = .ok (.iadd, 1) := by decide +kernel
theorem d_Model_size_41 : decode b_Model_size 41 = .ok (.iadd, 1) := by decide +kernel
theorem d_Model_size_42 : decode b_Model_size 42 = .ok (.istore_n 1, 1) := by decide +kernel
theorem d_Model_size_43 : decode b_Model_size 43 = .ok (.iinc 2 1, 3) := by decide +kernel
theorem d_Model_size_46 : decode b_Model_size 46 = .ok (.goto (-42), 3) := by decide +kernel
theorem d_Model_size_49 : decode b_Model_size 49 = .ok (.iload_n 1, 1) := by decide +kernel
theorem d_Model_size_50 : decode b_Model_size 50 = .ok (.ireturn, 1) := by decide +kernel
theorem d_Model_entries_0 : decode b_Model_entries 0 = .ok (.iconst 0, 1) := by decide +kernel
theorem d_Model_entries_1 : decode b_Model_entries 1 = .ok (.istore_n 2, 1) := by decide +kernel
theorem d_Model_entries_2 : decode b_Model_entries 2 = .ok (.iconst 0, 1) := by decide +kernel
theorem d_Model_entries_3 : decode b_Model_entries 3 = .ok (.istore_n 3, 1) := by decide +kernel
theorem d_Model_entries_4 : decode b_Model_entries 4 = .ok (.iload_n 3, 1) := by decide +kernel
theorem d_Model_entries_5 : decode b_Model_entries 5 = .ok (.aload_n 0, 1) := by decide +kernel
theorem d_Model_entries_6 : decode b_Model_entries 6 = .ok (.getfield 33, 3) := by decide +kernel
theorem d_Model_entries_9 : decode b_Model_entries 9 = .ok (.iconst 0, 1) := by decide +kernel
theorem d_Model_entries_10 : decode b_Model_entries 10 = .ok (.iaload, 1) := by decide +kernel
theorem d_Model_entries_11 : decode b_Model_entries 11 = .ok (.if_icmp .ge 27, 3) := by decide +kernel
theorem d_Model_entries_14 : decode b_Model_entries 14 = .ok (.aload_n 0, 1) := by decide +kernel
theorem d_Model_entries_15 : decode b_Model_entries 15 = .ok (.getfield 7, 3) := by decide +kernel
theorem d_Model_entries_18 : decode b_Model_entries 18 = .ok (.aload_n 0, 1) := by decide +kernel
theorem d_Model_entries_19 : decode b_Model_entries 19 = .ok (.getfield 30, 3) := by decide +kernel
theorem d_Model_entries_22 : decode b_Model_entries 22 = .ok (.iload_n 3, 1) := by decide +kernel
theorem d_Model_entries_23 : decode b_Model_entries 23 = .ok (.iaload, 1) := by decide +kernel
theorem d_Model_entries_24 : decode b_Model_entries 24 = .ok (.iaload, 1) := by decide +kernel
theorem d_Model_entries_25 : decode b_Model_entries 25 = .ok (.iload_n 1, 1) := by decide +kernel
theorem d_Model_entries_26 : decode b_Model_entries 26 = .ok (.if_icmp .ne 6, 3) := by decide +kernel
theorem d_Model_entries_29 : decode b_Model_entries 29 = .ok (.iinc 2 1, 3) := by decide +kernel
theorem d_Model_entries_32 : decode b_Model_entries 32 = .ok (.iinc 3 1, 3) := by decide +kernel
theorem d_Model_entries_35 : decode b_Model_entries 35 = .ok (.goto (-31), 3) := by decide +kernel
theorem d_Model_entries_38 : decode b_Model_entries 38 = .ok (.iload_n 2, 1) := by decide +kernel
theorem d_Model_entries_39 : decode b_Model_entries 39 = .ok (.ireturn, 1) := by decide +kernel
theorem d_Model_compare_0 : decode b_Model_compare 0 = .ok (.aload_n 0, 1) := by decide +kernel
theorem d_Model_compare_1 : decode b_Model_compare 1 = .ok (.getfield 16, 3) := by decide +kernel
theorem d_Model_compare_4 : decode b_Model_compare 4 = .ok (.iload_n 1, 1) := by decide +kernel
theorem d_Model_compare_5 : decode b_Model_compare 5 = .ok (.iaload, 1) := by decide +kernel
theorem d_Model_compare_6 : decode b_Model_compare 6 = .ok (.aload_n 0, 1) := by decide +kernel
theorem d_Model_compare_7 : decode b_Model_compare 7 = .ok (.getfield 59, 3) := by decide +kernel
theorem d_Model_compare_10 : decode b_Model_compare 10 = .ok (.if_icmp .ge 12, 3) := by decide +kernel
theorem d_Model_compare_13 : decode b_Model_compare 13 = .ok (.aload_n 0, 1) := by decide +kernel
theorem d_Model_compare_14 : decode b_Model_compare 14 = .ok (.getfield 16, 3) := by decide +kernel
theorem d_Model_compare_17 : decode b_Model_compare 17 = .ok (.iload_n 1, 1) := by decide +kernel
theorem d_Model_compare_18 : decode b_Model_compare 18 = .ok (.iaload, 1) := by decide +kernel
theorem d_Model_compare_19 : decode b_Model_compare 19 = .ok (.goto 7, 3) := by decide +kernel
theorem d_Model_compare_22 : decode b_Model_compare 22 = .ok (.aload_n 0, 1) := by decide +kernel
theorem d_Model_compare_23 : decode b_Model_compare 23 = .ok (.getfield 59, 3) := by decide +kernel
theorem d_Model_compare_26 : decode b_Model_compare 26 = .ok (.istore_n 2, 1) := by decide +kernel
theorem d_Model_compare_27 : decode b_Model_compare 27 = .ok (.iconst 0, 1) := by decide +kernel
theorem d_Model_compare_28 : decode b_Model_compare 28 = .ok (.istore_n 3, 1) := by decide +kernel
theorem d_Model_compare_29 : decode b_Model_compare 29 = .ok (.iload_n 3, 1) := by decide +kernel
theorem d_Model_compare_30 : decode b_Model_compare 30 = .ok (.iload_n 2, 1) := by decide +kernel
theorem d_Model_compare_31 : decode b_Model_compare 31 = .ok (.if_icmp .ge 47, 3) := by decide +kernel
theorem d_Model_compare_34 : decode b_Model_compare 34 = .ok (.aload_n 0, 1) := by decide +kernel
theorem d_Model_compare_35 : decode b_Model_compare 35 = .ok (.getfield 26, 3) := by decide +kernel
theorem d_Model_compare_38 : decode b_Model_compare 38 = .ok (.aload_n 0, 1) := by decide +kernel
theorem d_Model_compare_39 : decode b_Model_compare 39 = .ok (.getfield 13, 3) := by decide +kernel
theorem d_Model_compare_42 : decode b_Model_compare 42 = .ok (.iload_n 1, 1) := by decide +kernel
theorem d_Model_compare_43 : decode b_Model_compare 43 = .ok (.iaload, 1) := by decide +kernel
theorem d_Model_compare_44 : decode b_Model_compare 44 = .ok (.iload_n 3, 1) := by decide +kernel
theorem d_Model_compare_45 : decode b_Model_compare 45 = .ok (.iadd, 1) := by decide +kernel
theorem d_Model_compare_46 : decode b_Model_compare 46 = .ok (.baload, 1) := by decide +kernel
theorem d_Model_compare_47 : decode b_Model_compare 47 = .ok (.sipush 255, 3) := by decide +kernel
theorem d_Model_compare_50 : decode b_Model_compare 50 = .ok (.iand, 1) := by decide +kernel
theorem d_Model_compare_51 : decode b_Model_compare 51 = .ok (.aload_n 0, 1) := by decide +kernel
theorem d_Model_compare_52 : decode b_Model_compare 52 = .ok (.getfield 40, 3) := by decide +kernel
theorem d_Model_compare_55 : decode b_Model_compare 55 = .ok (.iload_n 3, 1) := by decide +kernel
theorem d_Model_compare_56 : decode b_Model_compare 56 = .ok (.baload, 1) := by decide +kernel
theorem d_Model_compare_57 : decode b_Model_compare 57 = .ok (.sipush 255, 3) := by decide +kernel
theorem d_Model_compare_60 : decode b_Model_compare 60 = .ok (.iand, 1) := by decide +kernel
theorem d_Model_compare_61 : decode b_Model_compare 61 = .ok (.isub, 1) := by decide +kernel
theorem d_Model_compare_62 : decode b_Model_compare 62 = .ok (.istore 4, 2) := by decide +kernel
theorem d_Model_compare_64 : decode b_Model_compare 64 = .ok (.iload 4, 2) := by decide +kernel
theorem d_Model_compare_66 : decode b_Model_compare 66 = .ok (.ifCond .eq 6, 3) := by decide +kernel
theorem d_Model_compare_69 : decode b_Model_compare 69 = .ok (.iload 4, 2) := by decide +kernel
theorem d_Model_compare_71 : decode b_Model_compare 71 = .ok (.ireturn, 1) := by decide +kernel
theorem d_Model_compare_72 : decode b_Model_compare 72 = .ok (.iinc 3 1, 3) := by decide +kernel
theorem d_Model_compare_75 : decode b_Model_compare 75 = .ok (.goto (-46), 3) := by decide +kernel
theorem d_Model_compare_78 : decode b_Model_compare 78 = .ok (.aload_n 0, 1) := by decide +kernel
theorem d_Model_compare_79 : decode b_Model_compare 79 = .ok (.getfield 16, 3) := by decide +kernel
theorem d_Model_compare_82 : decode b_Model_compare 82 = .ok (.iload_n 1, 1) := by decide +kernel
theorem d_Model_compare_83 : decode b_Model_compare 83 = .ok (.iaload, 1) := by decide +kernel
theorem d_Model_compare_84 : decode b_Model_compare 84 = .ok (.aload_n 0, 1) := by decide +kernel
theorem d_Model_compare_85 : decode b_Model_compare 85 = .ok (.getfield 59, 3) := by decide +kernel
theorem d_Model_compare_88 : decode b_Model_compare 88 = .ok (.isub, 1) := by decide +kernel
theorem d_Model_compare_89 : decode b_Model_compare 89 = .ok (.ireturn, 1) := by decide +kernel
theorem d_Model_find_0 : decode b_Model_find 0 = .ok (.iconst 0, 1) := by decide +kernel
theorem d_Model_find_1 : decode b_Model_find 1 = .ok (.istore_n 2, 1) := by decide +kernel
theorem d_Model_find_2 : decode b_Model_find 2 = .ok (.iload_n 2, 1) := by decide +kernel
theorem d_Model_find_3 : decode b_Model_find 3 = .ok (.aload_n 0, 1) := by decide +kernel
theorem d_Model_find_4 : decode b_Model_find 4 = .ok (.getfield 33, 3) := by decide +kernel
theorem d_Model_find_7 : decode b_Model_find 7 = .ok (.iconst 0, 1) := by decide +kernel
theorem d_Model_find_8 : decode b_Model_find 8 = .ok (.iaload, 1) := by decide +kernel
theorem d_Model_find_9 : decode b_Model_find 9 = .ok (.if_icmp .ge 52, 3) := by decide +kernel
theorem d_Model_find_12 : decode b_Model_find 12 = .ok (.aload_n 0, 1) := by decide +kernel
theorem d_Model_find_13 : decode b_Model_find 13 = .ok (.getfield 7, 3) := by decide +kernel
theorem d_Model_find_16 : decode b_Model_find 16 = .ok (.aload_n 0, 1) := by decide +kernel
theorem d_Model_find_17 : decode b_Model_find 17 = .ok (.getfield 30, 3) := by decide +kernel
theorem d_Model_find_20 : decode b_Model_find 20 = .ok (.iload_n 2, 1) := by decide +kernel
theorem d_Model_find_21 : decode b_Model_find 21 = .ok (.iaload, 1) := by decide +kernel
theorem d_Model_find_22 : decode b_Model_find 22 = .ok (.iaload, 1) := by decide +kernel
theorem d_Model_find_23 : decode b_Model_find 23 = .ok (.iload_n 1, 1) := by decide +kernel
theorem d_Model_find_24 : decode b_Model_find 24 = .ok (.if_icmp .lt 31, 3) := by decide +kernel
theorem d_Model_find_27 : decode b_Model_find 27 = .ok (.aload_n 0, 1) := by decide +kernel
theorem d_Model_find_28 : decode b_Model_find 28 = .ok (.getfield 7, 3) := by decide +kernel
theorem d_Model_find_31 : decode b_Model_find 31 = .ok (.aload_n 0, 1) := by decide +kernel
theorem d_Model_find_32 : decode b_Model_find 32 = .ok (.getfield 30, 3) := by decide +kernel
theorem d_Model_find_35 : decode b_Model_find 35 = .ok (.iload_n 2, 1) := by decide +kernel
theorem d_Model_find_36 : decode b_Model_find 36 = .ok (.iaload, 1) := by decide +kernel
theorem d_Model_find_37 : decode b_Model_find 37 = .ok (.iaload, 1) := by decide +kernel
theorem d_Model_find_38 : decode b_Model_find 38 = .ok (.iload_n 1, 1) := by decide +kernel
theorem d_Model_find_39 : decode b_Model_find 39 = .ok (.if_icmp .ne 22, 3) := by decide +kernel
theorem d_Model_find_42 : decode b_Model_find 42 = .ok (.aload_n 0, 1) := by decide +kernel
theorem d_Model_find_43 : decode b_Model_find 43 = .ok (.aload_n 0, 1) := by decide +kernel
theorem d_Model_find_44 : decode b_Model_find 44 = .ok (.getfield 30, 3) := by decide +kernel
theorem d_Model_find_47 : decode b_Model_find 47 = .ok (.iload_n 2, 1) := by decide +kernel
theorem d_Model_find_48 : decode b_Model_find 48 = .ok (.iaload, 1) := by decide +kernel
theorem d_Model_find_49 : decode b_Model_find 49 = .ok (.invokevirtual 81, 3) := by decide +kernel
theorem d_Model_find_52 : decode b_Model_find 52 = .ok (.ifCond .ge 9, 3) := by decide +kernel
theorem d_Model_find_55 : decode b_Model_find 55 = .ok (.iinc 2 1, 3) := by decide +kernel
theorem d_Model_find_58 : decode b_Model_find 58 = .ok (.goto (-56), 3) := by decide +kernel
theorem d_Model_find_61 : decode b_Model_find 61 = .ok (.iload_n 2, 1) := by decide +kernel
theorem d_Model_find_62 : decode b_Model_find 62 = .ok (.ireturn, 1) := by decide +kernel
theorem d_Model_isThere_0 : decode b_Model_isThere 0 = .ok (.iload_n 1, 1) := by decide +kernel
theorem d_Model_isThere_1 : decode b_Model_isThere 1 = .ok (.aload_n 0, 1) := by decide +kernel
theorem d_Model_isThere_2 : decode b_Model_isThere 2 = .ok (.getfield 33, 3) := by decide +kernel
theorem d_Model_isThere_5 : decode b_Model_isThere 5 = .ok (.iconst 0, 1) := by decide +kernel
theorem d_Model_isThere_6 : decode b_Model_isThere 6 = .ok (.iaload, 1) := by decide +kernel
theorem d_Model_isThere_7 : decode b_Model_isThere 7 = .ok (.if_icmp .ge 35, 3) := by decide +kernel
theorem d_Model_isThere_10 : decode b_Model_isThere 10 = .ok (.aload_n 0, 1) := by decide +kernel
theorem d_Model_isThere_11 : decode b_Model_isThere 11 = .ok (.getfield 7, 3) := by decide +kernel
theorem d_Model_isThere_14 : decode b_Model_isThere 14 = .ok (.aload_n 0, 1) := by decide +kernel
theorem d_Model_isThere_15 : decode b_Model_isThere 15 = .ok (.getfield 30, 3) := by decide +kernel
theorem d_Model_isThere_18 : decode b_Model_isThere 18 = .ok (.iload_n 1, 1) := by decide +kernel
theorem d_Model_isThere_19 : decode b_Model_isThere 19 = .ok (.iaload, 1) := by decide +kernel
theorem d_Model_isThere_20 : decode b_Model_isThere 20 = .ok (.iaload, 1) := by decide +kernel
theorem d_Model_isThere_21 : decode b_Model_isThere 21 = .ok (.iload_n 2, 1) := by decide +kernel
theorem d_Model_isThere_22 : decode b_Model_isThere 22 = .ok (.if_icmp .ne 20, 3) := by decide +kernel
theorem d_Model_isThere_25 : decode b_Model_isThere 25 = .ok (.aload_n 0, 1) := by decide +kernel
theorem d_Model_isThere_26 : decode b_Model_isThere 26 = .ok (.aload_n 0, 1) := by decide +kernel
theorem d_Model_isThere_27 : decode b_Model_isThere 27 = .ok (.getfield 30, 3) := by decide +kernel
theorem d_Model_isThere_30 : decode b_Model_isThere 30 = .ok (.iload_n 1, 1) := by decide +kernel
theorem d_Model_isThere_31 : decode b_Model_isThere 31 = .ok (.iaload, 1) := by decide +kernel
theorem d_Model_isThere_32 : decode b_Model_isThere 32 = .ok (.invokevirtual 81, 3) := by decide +kernel
theorem d_Model_isThere_35 : decode b_Model_isThere 35 = .ok (.ifCond .ne 7, 3) := by decide +kernel
theorem d_Model_isThere_38 : decode b_Model_isThere 38 = .ok (.iconst 1, 1) := by decide +kernel
theorem d_Model_isThere_39 : decode b_Model_isThere 39 = .ok (.goto 4, 3) := by decide +kernel
theorem d_Model_isThere_42 : decode b_Model_isThere 42 = .ok (.iconst 0, 1) := by decide +kernel
theorem d_Model_isThere_43 : decode b_Model_isThere 43 = .ok (.ireturn, 1) := by decide +kernel
theorem d_Model_copy_0 : decode b_Model_copy 0 = .ok (.iconst 0, 1) := by decide +kernel
theorem d_Model_copy_1 : decode b_Model_copy 1 = .ok (.istore_n 3, 1) := by decide +kernel
theorem d_Model_copy_2 : decode b_Model_copy 2 = .ok (.iload_n 3, 1) := by decide +kernel
theorem d_Model_copy_3 : decode b_Model_copy 3 = .ok (.aload_n 0, 1) := by decide +kernel
theorem d_Model_copy_4 : decode b_Model_copy 4 = .ok (.getfield 33, 3) := by decide +kernel
theorem d_Model_copy_7 : decode b_Model_copy 7 = .ok (.iload_n 1, 1) := by decide +kernel
theorem d_Model_copy_8 : decode b_Model_copy 8 = .ok (.iaload, 1) := by decide +kernel
theorem d_Model_copy_9 : decode b_Model_copy 9 = .ok (.if_icmp .ge 33, 3) := by decide +kernel
theorem d_Model_copy_12 : decode b_Model_copy 12 = .ok (.aload_n 0, 1) := by decide +kernel
theorem d_Model_copy_13 : decode b_Model_copy 13 = .ok (.getfield 30, 3) := by decide +kernel
theorem d_Model_copy_16 : decode b_Model_copy 16 = .ok (.sipush 2900, 3) := by decide +kernel
theorem d_Model_copy_19 : decode b_Model_copy 19 = .ok (.iload_n 2, 1) := by decide +kernel
theorem d_Model_copy_20 : decode b_Model_copy 20 = .ok (.imul, 1) := by decide +kernel
theorem d_Model_copy_21 : decode b_Model_copy 21 = .ok (.iload_n 3, 1) := by decide +kernel
theorem d_Model_copy_22 : decode b_Model_copy 22 = .ok (.iadd, 1) := by decide +kernel
theorem d_Model_copy_23 : decode b_Model_copy 23 = .ok (.aload_n 0, 1) := by decide +kernel
theorem d_Model_copy_24 : decode b_Model_copy 24 = .ok (.getfield 30, 3) := by decide +kernel
theorem d_Model_copy_27 : decode b_Model_copy 27 = .ok (.sipush 2900, 3) := by decide +kernel
theorem d_Model_copy_30 : decode b_Model_copy 30 = .ok (.iload_n 1, 1) := by decide +kernel
theorem d_Model_copy_31 : decode b_Model_copy 31 = .ok (.imul, 1) := by decide +kernel
theorem d_Model_copy_32 : decode b_Model_copy 32 = .ok (.iload_n 3, 1) := by decide +kernel
theorem d_Model_copy_33 : decode b_Model_copy 33 = .ok (.iadd, 1) := by decide +kernel
theorem d_Model_copy_34 : decode b_Model_copy 34 = .ok (.iaload, 1) := by decide +kernel
theorem d_Model_copy_35 : decode b_Model_copy 35 = .ok (.iastore, 1) := by decide +kernel
theorem d_Model_copy_36 : decode b_Model_copy 36 = .ok (.iinc 3 1, 3) := by decide +kernel
theorem d_Model_copy_39 : decode b_Model_copy 39 = .ok (.goto (-37), 3) := by decide +kernel
theorem d_Model_copy_42 : decode b_Model_copy 42 = .ok (.aload_n 0, 1) := by decide +kernel
theorem d_Model_copy_43 : decode b_Model_copy 43 = .ok (.getfield 33, 3) := by decide +kernel
theorem d_Model_copy_46 : decode b_Model_copy 46 = .ok (.iload_n 2, 1) := by decide +kernel
theorem d_Model_copy_47 : decode b_Model_copy 47 = .ok (.aload_n 0, 1) := by decide +kernel
theorem d_Model_copy_48 : decode b_Model_copy 48 = .ok (.getfield 33, 3) := by decide +kernel
theorem d_Model_copy_51 : decode b_Model_copy 51 = .ok (.iload_n 1, 1) := by decide +kernel
theorem d_Model_copy_52 : decode b_Model_copy 52 = .ok (.iaload, 1) := by decide +kernel
theorem d_Model_copy_53 : decode b_Model_copy 53 = .ok (.iastore, 1) := by decide +kernel
theorem d_Model_copy_54 : decode b_Model_copy 54 = .ok (.aload_n 0, 1) := by decide +kernel
theorem d_Model_copy_55 : decode b_Model_copy 55 = .ok (.getfield 36, 3) := by decide +kernel
theorem d_Model_copy_58 : decode b_Model_copy 58 = .ok (.iload_n 2, 1) := by decide +kernel
theorem d_Model_copy_59 : decode b_Model_copy 59 = .ok (.aload_n 0, 1) := by decide +kernel
theorem d_Model_copy_60 : decode b_Model_copy 60 = .ok (.getfield 36, 3) := by decide +kernel
theorem d_Model_copy_63 : decode b_Model_copy 63 = .ok (.iload_n 1, 1) := by decide +kernel
theorem d_Model_copy_64 : decode b_Model_copy 64 = .ok (.laload, 1) := by decide +kernel
theorem d_Model_copy_65 : decode b_Model_copy 65 = .ok (.lastore, 1) := by decide +kernel
theorem d_Model_copy_66 : decode b_Model_copy 66 = .ok (.return_, 1) := by decide +kernel
theorem d_Model_pack_0 : decode b_Model_pack 0 = .ok (.iconst 0, 1) := by decide +kernel
theorem d_Model_pack_1 : decode b_Model_pack 1 = .ok (.istore_n 1, 1) := by decide +kernel
theorem d_Model_pack_2 : decode b_Model_pack 2 = .ok (.iload_n 1, 1) := by decide +kernel
theorem d_Model_pack_3 : decode b_Model_pack 3 = .ok (.aload_n 0, 1) := by decide +kernel
theorem d_Model_pack_4 : decode b_Model_pack 4 = .ok (.getfield 85, 3) := by decide +kernel
theorem d_Model_pack_7 : decode b_Model_pack 7 = .ok (.if_icmp .ge 16, 3) := by decide +kernel
theorem d_Model_pack_10 : decode b_Model_pack 10 = .ok (.aload_n 0, 1) := by decide +kernel
theorem d_Model_pack_11 : decode b_Model_pack 11 = .ok (.getfield 22, 3) := by decide +kernel
theorem d_Model_pack_14 : decode b_Model_pack 14 = .ok (.iload_n 1, 1) := by decide +kernel
theorem d_Model_pack_15 : decode b_Model_pack 15 = .ok (.iconst (-1), 1) := by decide +kernel
theorem d_Model_pack_16 : decode b_Model_pack 16 = .ok (.iastore, 1) := by decide +kernel
theorem d_Model_pack_17 : decode b_Model_pack 17 = .ok (.iinc 1 1, 3) := by decide +kernel
theorem d_Model_pack_20 : decode b_Model_pack 20 = .ok (.goto (-18), 3) := by decide +kernel
theorem d_Model_pack_23 : decode b_Model_pack 23 = .ok (.iconst 0, 1) := by decide +kernel
theorem d_Model_pack_24 : decode b_Model_pack 24 = .ok (.istore_n 1, 1) := by decide +kernel
theorem d_Model_pack_25 : decode b_Model_pack 25 = .ok (.iload_n 1, 1) := by decide +kernel
theorem d_Model_pack_26 : decode b_Model_pack 26 = .ok (.iconst 2, 1) := by decide +kernel
theorem d_Model_pack_27 : decode b_Model_pack 27 = .ok (.aload_n 0, 1) := by decide +kernel
theorem d_Model_pack_28 : decode b_Model_pack 28 = .ok (.getfield 88, 3) := by decide +kernel
theorem d_Model_pack_31 : decode b_Model_pack 31 = .ok (.iadd, 1) := by decide +kernel
theorem d_Model_pack_32 : decode b_Model_pack 32 = .ok (.if_icmp .ge 45, 3) := by decide +kernel
theorem d_Model_pack_35 : decode b_Model_pack 35 = .ok (.iconst 0, 1) := by decide +kernel
theorem d_Model_pack_36 : decode b_Model_pack 36 = .ok (.istore_n 2, 1) := by decide +kernel
theorem d_Model_pack_37 : decode b_Model_pack 37 = .ok (.iload_n 2, 1) := by decide +kernel
theorem d_Model_pack_38 : decode b_Model_pack 38 = .ok (.aload_n 0, 1) := by decide +kernel
theorem d_Model_pack_39 : decode b_Model_pack 39 = .ok (.getfield 33, 3) := by decide +kernel
theorem d_Model_pack_42 : decode b_Model_pack 42 = .ok (.iload_n 1, 1) := by decide +kernel
theorem d_Model_pack_43 : decode b_Model_pack 43 = .ok (.iaload, 1) := by decide +kernel
theorem d_Model_pack_44 : decode b_Model_pack 44 = .ok (.if_icmp .ge 27, 3) := by decide +kernel
theorem d_Model_pack_47 : decode b_Model_pack 47 = .ok (.aload_n 0, 1) := by decide +kernel
theorem d_Model_pack_48 : decode b_Model_pack 48 = .ok (.getfield 22, 3) := by decide +kernel
theorem d_Model_pack_51 : decode b_Model_pack 51 = .ok (.aload_n 0, 1) := by decide +kernel
theorem d_Model_pack_52 : decode b_Model_pack 52 = .ok (.getfield 30, 3) := by decide +kernel
theorem d_Model_pack_55 : decode b_Model_pack 55 = .ok (.sipush 2900, 3) := by decide +kernel
theorem d_Model_pack_58 : decode b_Model_pack 58 = .ok (.iload_n 1, 1) := by decide +kernel
theorem d_Model_pack_59 : decode b_Model_pack 59 = .ok (.imul, 1) := by decide +kernel
theorem d_Model_pack_60 : decode b_Model_pack 60 = .ok (.iload_n 2, 1) := by decide +kernel
theorem d_Model_pack_61 : decode b_Model_pack 61 = .ok (.iadd, 1) := by decide +kernel
theorem d_Model_pack_62 : decode b_Model_pack 62 = .ok (.iaload, 1) := by decide +kernel
theorem d_Model_pack_63 : decode b_Model_pack 63 = .ok (.iconst 0, 1) := by decide +kernel
theorem d_Model_pack_64 : decode b_Model_pack 64 = .ok (.iastore, 1) := by decide +kernel
theorem d_Model_pack_65 : decode b_Model_pack 65 = .ok (.iinc 2 1, 3) := by decide +kernel
theorem d_Model_pack_68 : decode b_Model_pack 68 = .ok (.goto (-31), 3) := by decide +kernel
theorem d_Model_pack_71 : decode b_Model_pack 71 = .ok (.iinc 1 1, 3) := by decide +kernel
theorem d_Model_pack_74 : decode b_Model_pack 74 = .ok (.goto (-49), 3) := by decide +kernel
theorem d_Model_pack_77 : decode b_Model_pack 77 = .ok (.iconst 0, 1) := by decide +kernel
theorem d_Model_pack_78 : decode b_Model_pack 78 = .ok (.istore_n 1, 1) := by decide +kernel
theorem d_Model_pack_79 : decode b_Model_pack 79 = .ok (.aload_n 0, 1) := by decide +kernel
theorem d_Model_pack_80 : decode b_Model_pack 80 = .ok (.iconst 0, 1) := by decide +kernel
theorem d_Model_pack_81 : decode b_Model_pack 81 = .ok (.putfield 91, 3) := by decide +kernel
theorem d_Model_pack_84 : decode b_Model_pack 84 = .ok (.iconst 0, 1) := by decide +kernel
theorem d_Model_pack_85 : decode b_Model_pack 85 = .ok (.istore_n 2, 1) := by decide +kernel
theorem d_Model_pack_86 : decode b_Model_pack 86 = .ok (.iload_n 2, 1) := by decide +kernel
theorem d_Model_pack_87 : decode b_Model_pack 87 = .ok (.aload_n 0, 1) := by decide +kernel
theorem d_Model_pack_88 : decode b_Model_pack 88 = .ok (.getfield 85, 3) := by decide +kernel
theorem d_Model_pack_91 : decode b_Model_pack 91 = .ok (.if_icmp .ge 142, 3) := by decide +kernel
theorem d_Model_pack_94 : decode b_Model_pack 94 = .ok (.aload_n 0, 1) := by decide +kernel
theorem d_Model_pack_95 : decode b_Model_pack 95 = .ok (.getfield 22, 3) := by decide +kernel
theorem d_Model_pack_98 : decode b_Model_pack 98 = .ok (.iload_n 2, 1) := by decide +kernel
theorem d_Model_pack_99 : decode b_Model_pack 99 = .ok (.iaload, 1) := by decide +kernel
theorem d_Model_pack_100 : decode b_Model_pack 100 = .ok (.ifCond .ge 6, 3) := by decide +kernel
theorem d_Model_pack_103 : decode b_Model_pack 103 = .ok (.goto 124, 3) := by decide +kernel
theorem d_Model_pack_106 : decode b_Model_pack 106 = .ok (.aload_n 0, 1) := by decide +kernel
theorem d_Model_pack_107 : decode b_Model_pack 107 = .ok (.getfield 16, 3) := by decide +kernel
theorem d_Model_pack_110 : decode b_Model_pack 110 = .ok (.iload_n 2, 1) := by decide +kernel
theorem d_Model_pack_111 : decode b_Model_pack 111 = .ok (.iaload, 1) := by decide +kernel
theorem d_Model_pack_112 : decode b_Model_pack 112 = .ok (.aload_n 0, 1) := by decide +kernel
theorem d_Model_pack_113 : decode b_Model_pack 113 = .ok (.getfield 19, 3) := by decide +kernel
theorem d_Model_pack_116 : decode b_Model_pack 116 = .ok (.iload_n 2, 1) := by decide +kernel
theorem d_Model_pack_117 : decode b_Model_pack 117 = .ok (.iaload, 1) := by decide +kernel
theorem d_Model_pack_118 : decode b_Model_pack 118 = .ok (.iadd, 1) := by decide +kernel
theorem d_Model_pack_119 : decode b_Model_pack 119 = .ok (.istore_n 3, 1) := by decide +kernel
theorem d_Model_pack_120 : decode b_Model_pack 120 = .ok (.iconst 0, 1) := by decide +kernel
theorem d_Model_pack_121 : decode b_Model_pack 121 = .ok (.istore 4, 2) := by decide +kernel
theorem d_Model_pack_123 : decode b_Model_pack 123 = .ok (.iload 4, 2) := by decide +kernel
theorem d_Model_pack_125 : decode b_Model_pack 125 = .ok (.iload_n 3, 1) := by decide +kernel
theorem d_Model_pack_126 : decode b_Model_pack 126 = .ok (.if_icmp .ge 35, 3) := by decide +kernel
theorem d_Model_pack_129 : decode b_Model_pack 129 = .ok (.aload_n 0, 1) := by decide +kernel
theorem d_Model_pack_130 : decode b_Model_pack 130 = .ok (.getfield 26, 3) := by decide +kernel
theorem d_Model_pack_133 : decode b_Model_pack 133 = .ok (.aload_n 0, 1) := by decide +kernel
theorem d_Model_pack_134 : decode b_Model_pack 134 = .ok (.getfield 91, 3) := by decide +kernel
theorem d_Model_pack_137 : decode b_Model_pack 137 = .ok (.iload 4, 2) := by decide +kernel
theorem d_Model_pack_139 : decode b_Model_pack 139 = .ok (.iadd, 1) := by decide +kernel
theorem d_Model_pack_140 : decode b_Model_pack 140 = .ok (.aload_n 0, 1) := by decide +kernel
theorem d_Model_pack_141 : decode b_Model_pack 141 = .ok (.getfield 26, 3) := by decide +kernel
theorem d_Model_pack_144 : decode b_Model_pack 144 = .ok (.aload_n 0, 1) := by decide +kernel
theorem d_Model_pack_145 : decode b_Model_pack 145 = .ok (.getfield 13, 3) := by decide +kernel
theorem d_Model_pack_148 : decode b_Model_pack 148 = .ok (.iload_n 2, 1) := by decide +kernel
theorem d_Model_pack_149 : decode b_Model_pack 149 = .ok (.iaload, 1) := by decide +kernel
theorem d_Model_pack_150 : decode b_Model_pack 150 = .ok (.iload 4, 2) := by decide +kernel
theorem d_Model_pack_152 : decode b_Model_pack 152 = .ok (.iadd, 1) := by decide +kernel
theorem d_Model_pack_153 : decode b_Model_pack 153 = .ok (.baload, 1) := by decide +kernel
theorem d_Model_pack_154 : decode b_Model_pack 154 = .ok (.bastore, 1) := by decide +kernel
theorem d_Model_pack_155 : decode b_Model_pack 155 = .ok (.iinc 4 1, 3) := by decide +kernel
theorem d_Model_pack_158 : decode b_Model_pack 158 = .ok (.goto (-35), 3) := by decide +kernel
theorem d_Model_pack_161 : decode b_Model_pack 161 = .ok (.aload_n 0, 1) := by decide +kernel
theorem d_Model_pack_162 : decode b_Model_pack 162 = .ok (.getfield 7, 3) := by decide +kernel
theorem d_Model_pack_165 : decode b_Model_pack 165 = .ok (.iload_n 1, 1) := by decide +kernel
theorem d_Model_pack_166 : decode b_Model_pack 166 = .ok (.aload_n 0, 1) := by decide +kernel
theorem d_Model_pack_167 : decode b_Model_pack 167 = .ok (.getfield 7, 3) := by decide +kernel
theorem d_Model_pack_170 : decode b_Model_pack 170 = .ok (.iload_n 2, 1) := by decide +kernel
theorem d_Model_pack_171 : decode b_Model_pack 171 = .ok (.iaload, 1) := by decide +kernel
theorem d_Model_pack_172 : decode b_Model_pack 172 = .ok (.iastore, 1) := by decide +kernel
theorem d_Model_pack_173 : decode b_Model_pack 173 = .ok (.aload_n 0, 1) := by decide +kernel
theorem d_Model_pack_174 : decode b_Model_pack 174 = .ok (.getfield 13, 3) := by decide +kernel
theorem d_Model_pack_177 : decode b_Model_pack 177 = .ok (.iload_n 1, 1) := by decide +kernel
theorem d_Model_pack_178 : decode b_Model_pack 178 = .ok (.aload_n 0, 1) := by decide +kernel
theorem d_Model_pack_179 : decode b_Model_pack 179 = .ok (.getfield 91, 3) := by decide +kernel
theorem d_Model_pack_182 : decode b_Model_pack 182 = .ok (.iastore, 1) := by decide +kernel
theorem d_Model_pack_183 : decode b_Model_pack 183 = .ok (.aload_n 0, 1) := by decide +kernel
theorem d_Model_pack_184 : decode b_Model_pack 184 = .ok (.getfield 16, 3) := by decide +kernel
theorem d_Model_pack_187 : decode b_Model_pack 187 = .ok (.iload_n 1, 1) := by decide +kernel
theorem d_Model_pack_188 : decode b_Model_pack 188 = .ok (.aload_n 0, 1) := by decide +kernel
theorem d_Model_pack_189 : decode b_Model_pack 189 = .ok (.getfield 16, 3) := by decide +kernel
theorem d_Model_pack_192 : decode b_Model_pack 192 = .ok (.iload_n 2, 1) := by decide +kernel
theorem d_Model_pack_193 : decode b_Model_pack 193 = .ok (.iaload, 1) := by decide +kernel
theorem d_Model_pack_194 : decode b_Model_pack 194 = .ok (.iastore, 1) := by decide +kernel
theorem d_Model_pack_195 : decode b_Model_pack 195 = .ok (.aload_n 0, 1) := by decide +kernel
theorem d_Model_pack_196 : decode b_Model_pack 196 = .ok (.getfield 19, 3) := by decide +kernel
theorem d_Model_pack_199 : decode b_Model_pack 199 = .ok (.iload_n 1, 1) := by decide +kernel
theorem d_Model_pack_200 : decode b_Model_pack 200 = .ok (.aload_n 0, 1) := by decide +kernel
theorem d_Model_pack_201 : decode b_Model_pack 201 = .ok (.getfield 19, 3) := by decide +kernel
theorem d_Model_pack_204 : decode b_Model_pack 204 = .ok (.iload_n 2, 1) := by decide +kernel
theorem d_Model_pack_205 : decode b_Model_pack 205 = .ok (.iaload, 1) := by decide +kernel
theorem d_Model_pack_206 : decode b_Model_pack 206 = .ok (.iastore, 1) := by decide +kernel
theorem d_Model_pack_207 : decode b_Model_pack 207 = .ok (.aload_n 0, 1) := by decide +kernel
theorem d_Model_pack_208 : decode b_Model_pack 208 = .ok (.getfield 22, 3) := by decide +kernel
theorem d_Model_pack_211 : decode b_Model_pack 211 = .ok (.iload_n 2, 1) := by decide +kernel
theorem d_Model_pack_212 : decode b_Model_pack 212 = .ok (.iload_n 1, 1) := by decide +kernel
theorem d_Model_pack_213 : decode b_Model_pack 213 = .ok (.iastore, 1) := by decide +kernel
theorem d_Model_pack_214 : decode b_Model_pack 214 = .ok (.iinc 1 1, 3) := by decide +kernel
theorem d_Model_pack_217 : decode b_Model_pack 217 = .ok (.aload_n 0, 1) := by decide +kernel
theorem d_Model_pack_218 : decode b_Model_pack 218 = .ok (.dup, 1) := by decide +kernel
theorem d_Model_pack_219 : decode b_Model_pack 219 = .ok (.getfield 91, 3) := by decide +kernel
theorem d_Model_pack_222 : decode b_Model_pack 222 = .ok (.iload_n 3, 1) := by decide +kernel
theorem d_Model_pack_223 : decode b_Model_pack 223 = .ok (.iadd, 1) := by decide +kernel
theorem d_Model_pack_224 : decode b_Model_pack 224 = .ok (.putfield 91, 3) := by decide +kernel
theorem d_Model_pack_227 : decode b_Model_pack 227 = .ok (.iinc 2 1, 3) := by decide +kernel
theorem d_Model_pack_230 : decode b_Model_pack 230 = .ok (.goto (-144), 3) := by decide +kernel
theorem d_Model_pack_233 : decode b_Model_pack 233 = .ok (.aload_n 0, 1) := by decide +kernel
theorem d_Model_pack_234 : decode b_Model_pack 234 = .ok (.iload_n 1, 1) := by decide +kernel
theorem d_Model_pack_235 : decode b_Model_pack 235 = .ok (.putfield 85, 3) := by decide +kernel
theorem d_Model_pack_238 : decode b_Model_pack 238 = .ok (.iconst 0, 1) := by decide +kernel
theorem d_Model_pack_239 : decode b_Model_pack 239 = .ok (.istore_n 2, 1) := by decide +kernel
theorem d_Model_pack_240 : decode b_Model_pack 240 = .ok (.iload_n 2, 1) := by decide +kernel
theorem d_Model_pack_241 : decode b_Model_pack 241 = .ok (.iconst 2, 1) := by decide +kernel
theorem d_Model_pack_242 : decode b_Model_pack 242 = .ok (.aload_n 0, 1) := by decide +kernel
theorem d_Model_pack_243 : decode b_Model_pack 243 = .ok (.getfield 88, 3) := by decide +kernel
theorem d_Model_pack_246 : decode b_Model_pack 246 = .ok (.iadd, 1) := by decide +kernel
theorem d_Model_pack_247 : decode b_Model_pack 247 = .ok (.if_icmp .ge 56, 3) := by decide +kernel
theorem d_Model_pack_250 : decode b_Model_pack 250 = .ok (.iconst 0, 1) := by decide +kernel
theorem d_Model_pack_251 : decode b_Model_pack 251 = .ok (.istore_n 3, 1) := by decide +kernel
theorem d_Model_pack_252 : decode b_Model_pack 252 = .ok (.iload_n 3, 1) := by decide +kernel
theorem d_Model_pack_253 : decode b_Model_pack 253 = .ok (.aload_n 0, 1) := by decide +kernel
theorem d_Model_pack_254 : decode b_Model_pack 254 = .ok (.getfield 33, 3) := by decide +kernel
theorem d_Model_pack_257 : decode b_Model_pack 257 = .ok (.iload_n 2, 1) := by decide +kernel
theorem d_Model_pack_258 : decode b_Model_pack 258 = .ok (.iaload, 1) := by decide +kernel
theorem d_Model_pack_259 : decode b_Model_pack 259 = .ok (.if_icmp .ge 38, 3) := by decide +kernel
theorem d_Model_pack_262 : decode b_Model_pack 262 = .ok (.aload_n 0, 1) := by decide +kernel
theorem d_Model_pack_263 : decode b_Model_pack 263 = .ok (.getfield 30, 3) := by decide +kernel
theorem d_Model_pack_266 : decode b_Model_pack 266 = .ok (.sipush 2900, 3) := by decide +kernel
theorem d_Model_pack_269 : decode b_Model_pack 269 = .ok (.iload_n 2, 1) := by decide +kernel
theorem d_Model_pack_270 : decode b_Model_pack 270 = .ok (.imul, 1) := by decide +kernel
theorem d_Model_pack_271 : decode b_Model_pack 271 = .ok (.iload_n 3, 1) := by decide +kernel
theorem d_Model_pack_272 : decode b_Model_pack 272 = .ok (.iadd, 1) := by decide +kernel
theorem d_Model_pack_273 : decode b_Model_pack 273 = .ok (.aload_n 0, 1) := by decide +kernel
theorem d_Model_pack_274 : decode b_Model_pack 274 = .ok (.getfield 22, 3) := by decide +kernel
theorem d_Model_pack_277 : decode b_Model_pack 277 = .ok (.aload_n 0, 1) := by decide +kernel
theorem d_Model_pack_278 : decode b_Model_pack 278 = .ok (.getfield 30, 3) := by decide +kernel
theorem d_Model_pack_281 : decode b_Model_pack 281 = .ok (.sipush 2900, 3) := by decide +kernel
theorem d_Model_pack_284 : decode b_Model_pack 284 = .ok (.iload_n 2, 1) := by decide +kernel
theorem d_Model_pack_285 : decode b_Model_pack 285 = .ok (.imul, 1) := by decide +kernel
theorem d_Model_pack_286 : decode b_Model_pack 286 = .ok (.iload_n 3, 1) := by decide +kernel
theorem d_Model_pack_287 : decode b_Model_pack 287 = .ok (.iadd, 1) := by decide +kernel
theorem d_Model_pack_288 : decode b_Model_pack 288 = .ok (.iaload, 1) := by decide +kernel
theorem d_Model_pack_289 : decode b_Model_pack 289 = .ok (.iaload, 1) := by decide +kernel
theorem d_Model_pack_290 : decode b_Model_pack 290 = .ok (.iastore, 1) := by decide +kernel
theorem d_Model_pack_291 : decode b_Model_pack 291 = .ok (.iinc 3 1, 3) := by decide +kernel
theorem d_Model_pack_294 : decode b_Model_pack 294 = .ok (.goto (-42), 3) := by decide +kernel
theorem d_Model_pack_297 : decode b_Model_pack 297 = .ok (.iinc 2 1, 3) := by decide +kernel
theorem d_Model_pack_300 : decode b_Model_pack 300 = .ok (.goto (-60), 3) := by decide +kernel
theorem d_Model_pack_303 : decode b_Model_pack 303 = .ok (.return_, 1) := by decide +kernel
theorem d_Model_entry_0 : decode b_Model_entry 0 = .ok (.aload_n 0, 1) := by decide +kernel
theorem d_Model_entry_1 : decode b_Model_entry 1 = .ok (.getfield 85, 3) := by decide +kernel
theorem d_Model_entry_4 : decode b_Model_entry 4 = .ok (.sipush 20600, 3) := by decide +kernel
theorem d_Model_entry_7 : decode b_Model_entry 7 = .ok (.if_icmp .eq 22, 3) := by decide +kernel
theorem d_Model_entry_10 : decode b_Model_entry 10 = .ok (.aload_n 0, 1) := by decide +kernel
theorem d_Model_entry_11 : decode b_Model_entry 11 = .ok (.getfield 91, 3) := by decide +kernel
theorem d_Model_entry_14 : decode b_Model_entry 14 = .ok (.aload_n 0, 1) := by decide +kernel
theorem d_Model_entry_15 : decode b_Model_entry 15 = .ok (.getfield 59, 3) := by decide +kernel
theorem d_Model_entry_18 : decode b_Model_entry 18 = .ok (.iadd, 1) := by decide +kernel
theorem d_Model_entry_19 : decode b_Model_entry 19 = .ok (.aload_n 0, 1) := by decide +kernel
theorem d_Model_entry_20 : decode b_Model_entry 20 = .ok (.getfield 62, 3) := by decide +kernel
theorem d_Model_entry_23 : decode b_Model_entry 23 = .ok (.iadd, 1) := by decide +kernel
theorem d_Model_entry_24 : decode b_Model_entry 24 = .ok (.ldc 25, 2) := by decide +kernel
theorem d_Model_entry_26 : decode b_Model_entry 26 = .ok (.if_icmp .le 7, 3) := by decide +kernel
theorem d_Model_entry_29 : decode b_Model_entry 29 = .ok (.aload_n 0, 1) := by decide +kernel
theorem d_Model_entry_30 : decode b_Model_entry 30 = .ok (.invokevirtual 94, 3) := by decide +kernel
theorem d_Model_entry_33 : decode b_Model_entry 33 = .ok (.aload_n 0, 1) := by decide +kernel
theorem d_Model_entry_34 : decode b_Model_entry 34 = .ok (.getfield 85, 3) := by decide +kernel
theorem d_Model_entry_37 : decode b_Model_entry 37 = .ok (.istore_n 2, 1) := by decide +kernel
theorem d_Model_entry_38 : decode b_Model_entry 38 = .ok (.aload_n 0, 1) := by decide +kernel
theorem d_Model_entry_39 : decode b_Model_entry 39 = .ok (.getfield 7, 3) := by decide +kernel
theorem d_Model_entry_42 : decode b_Model_entry 42 = .ok (.iload_n 2, 1) := by decide +kernel
theorem d_Model_entry_43 : decode b_Model_entry 43 = .ok (.iload_n 1, 1) := by decide +kernel
theorem d_Model_entry_44 : decode b_Model_entry 44 = .ok (.iastore, 1) := by decide +kernel
theorem d_Model_entry_45 : decode b_Model_entry 45 = .ok (.aload_n 0, 1) := by decide +kernel
theorem d_Model_entry_46 : decode b_Model_entry 46 = .ok (.getfield 13, 3) := by decide +kernel
theorem d_Model_entry_49 : decode b_Model_entry 49 = .ok (.iload_n 2, 1) := by decide +kernel
theorem d_Model_entry_50 : decode b_Model_entry 50 = .ok (.aload_n 0, 1) := by decide +kernel
theorem d_Model_entry_51 : decode b_Model_entry 51 = .ok (.getfield 91, 3) := by decide +kernel
theorem d_Model_entry_54 : decode b_Model_entry 54 = .ok (.iastore, 1) := by decide +kernel
theorem d_Model_entry_55 : decode b_Model_entry 55 = .ok (.aload_n 0, 1) := by decide +kernel
theorem d_Model_entry_56 : decode b_Model_entry 56 = .ok (.getfield 16, 3) := by decide +kernel
theorem d_Model_entry_59 : decode b_Model_entry 59 = .ok (.iload_n 2, 1) := by decide +kernel
theorem d_Model_entry_60 : decode b_Model_entry 60 = .ok (.aload_n 0, 1) := by decide +kernel
theorem d_Model_entry_61 : decode b_Model_entry 61 = .ok (.getfield 59, 3) := by decide +kernel
theorem d_Model_entry_64 : decode b_Model_entry 64 = .ok (.iastore, 1) := by decide +kernel
theorem d_Model_entry_65 : decode b_Model_entry 65 = .ok (.aload_n 0, 1) := by decide +kernel
theorem d_Model_entry_66 : decode b_Model_entry 66 = .ok (.getfield 19, 3) := by decide +kernel
theorem d_Model_entry_69 : decode b_Model_entry 69 = .ok (.iload_n 2, 1) := by decide +kernel
theorem d_Model_entry_70 : decode b_Model_entry 70 = .ok (.aload_n 0, 1) := by decide +kernel
theorem d_Model_entry_71 : decode b_Model_entry 71 = .ok (.getfield 62, 3) := by decide +kernel
theorem d_Model_entry_74 : decode b_Model_entry 74 = .ok (.iastore, 1) := by decide +kernel
theorem d_Model_entry_75 : decode b_Model_entry 75 = .ok (.iconst 0, 1) := by decide +kernel
theorem d_Model_entry_76 : decode b_Model_entry 76 = .ok (.istore_n 3, 1) := by decide +kernel
theorem d_Model_entry_77 : decode b_Model_entry 77 = .ok (.iload_n 3, 1) := by decide +kernel
theorem d_Model_entry_78 : decode b_Model_entry 78 = .ok (.aload_n 0, 1) := by decide +kernel
theorem d_Model_entry_79 : decode b_Model_entry 79 = .ok (.getfield 59, 3) := by decide +kernel
theorem d_Model_entry_82 : decode b_Model_entry 82 = .ok (.if_icmp .ge 26, 3) := by decide +kernel
theorem d_Model_entry_85 : decode b_Model_entry 85 = .ok (.aload_n 0, 1) := by decide +kernel
theorem d_Model_entry_86 : decode b_Model_entry 86 = .ok (.getfield 26, 3) := by decide +kernel
theorem d_Model_entry_89 : decode b_Model_entry 89 = .ok (.aload_n 0, 1) := by decide +kernel
theorem d_Model_entry_90 : decode b_Model_entry 90 = .ok (.getfield 91, 3) := by decide +kernel
theorem d_Model_entry_93 : decode b_Model_entry 93 = .ok (.iload_n 3, 1) := by decide +kernel
theorem d_Model_entry_94 : decode b_Model_entry 94 = .ok (.iadd, 1) := by decide +kernel
theorem d_Model_entry_95 : decode b_Model_entry 95 = .ok (.aload_n 0, 1) := by decide +kernel
theorem d_Model_entry_96 : decode b_Model_entry 96 = .ok (.getfield 40, 3) := by decide +kernel
theorem d_Model_entry_99 : decode b_Model_entry 99 = .ok (.iload_n 3, 1) := by decide +kernel
theorem d_Model_entry_100 : decode b_Model_entry 100 = .ok (.baload, 1) := by decide +kernel
theorem d_Model_entry_101 : decode b_Model_entry 101 = .ok (.bastore, 1) := by decide +kernel
theorem d_Model_entry_102 : decode b_Model_entry 102 = .ok (.iinc 3 1, 3) := by decide +kernel
theorem d_Model_entry_105 : decode b_Model_entry 105 = .ok (.goto (-28), 3) := by decide +kernel
theorem d_Model_entry_108 : decode b_Model_entry 108 = .ok (.iconst 0, 1) := by decide +kernel
theorem d_Model_entry_109 : decode b_Model_entry 109 = .ok (.istore_n 3, 1) := by decide +kernel
theorem d_Model_entry_110 : decode b_Model_entry 110 = .ok (.iload_n 3, 1) := by decide +kernel
theorem d_Model_entry_111 : decode b_Model_entry 111 = .ok (.aload_n 0, 1) := by decide +kernel
theorem d_Model_entry_112 : decode b_Model_entry 112 = .ok (.getfield 62, 3) := by decide +kernel
theorem d_Model_entry_115 : decode b_Model_entry 115 = .ok (.if_icmp .ge 31, 3) := by decide +kernel
theorem d_Model_entry_118 : decode b_Model_entry 118 = .ok (.aload_n 0, 1) := by decide +kernel
theorem d_Model_entry_119 : decode b_Model_entry 119 = .ok (.getfield 26, 3) := by decide +kernel
theorem d_Model_entry_122 : decode b_Model_entry 122 = .ok (.aload_n 0, 1) := by decide +kernel
theorem d_Model_entry_123 : decode b_Model_entry 123 = .ok (.getfield 91, 3) := by decide +kernel
theorem d_Model_entry_126 : decode b_Model_entry 126 = .ok (.aload_n 0, 1) := by decide +kernel
theorem d_Model_entry_127 : decode b_Model_entry 127 = .ok (.getfield 59, 3) := by decide +kernel
theorem d_Model_entry_130 : decode b_Model_entry 130 = .ok (.iadd, 1) := by decide +kernel
theorem d_Model_entry_131 : decode b_Model_entry 131 = .ok (.iload_n 3, 1) := by decide +kernel
theorem d_Model_entry_132 : decode b_Model_entry 132 = .ok (.iadd, 1) := by decide +kernel
theorem d_Model_entry_133 : decode b_Model_entry 133 = .ok (.aload_n 0, 1) := by decide +kernel
theorem d_Model_entry_134 : decode b_Model_entry 134 = .ok (.getfield 43, 3) := by decide +kernel
theorem d_Model_entry_137 : decode b_Model_entry 137 = .ok (.iload_n 3, 1) := by decide +kernel
theorem d_Model_entry_138 : decode b_Model_entry 138 = .ok (.baload, 1) := by decide +kernel
theorem d_Model_entry_139 : decode b_Model_entry 139 = .ok (.bastore, 1) := by decide +kernel
theorem d_Model_entry_140 : decode b_Model_entry 140 = .ok (.iinc 3 1, 3) := by decide +kernel
theorem d_Model_entry_143 : decode b_Model_entry 143 = .ok (.goto (-33), 3) := by decide +kernel
theorem d_Model_entry_146 : decode b_Model_entry 146 = .ok (.aload_n 0, 1) := by decide +kernel
theorem d_Model_entry_147 : decode b_Model_entry 147 = .ok (.dup, 1) := by decide +kernel
theorem d_Model_entry_148 : decode b_Model_entry 148 = .ok (.getfield 91, 3) := by decide +kernel
theorem d_Model_entry_151 : decode b_Model_entry 151 = .ok (.aload_n 0, 1) := by decide +kernel
theorem d_Model_entry_152 : decode b_Model_entry 152 = .ok (.getfield 59, 3) := by decide +kernel
theorem d_Model_entry_155 : decode b_Model_entry 155 = .ok (.aload_n 0, 1) := by decide +kernel
theorem d_Model_entry_156 : decode b_Model_entry 156 = .ok (.getfield 62, 3) := by decide +kernel
theorem d_Model_entry_159 : decode b_Model_entry 159 = .ok (.iadd, 1) := by decide +kernel
theorem d_Model_entry_160 : decode b_Model_entry 160 = .ok (.iadd, 1) := by decide +kernel
theorem d_Model_entry_161 : decode b_Model_entry 161 = .ok (.putfield 91, 3) := by decide +kernel
theorem d_Model_entry_164 : decode b_Model_entry 164 = .ok (.aload_n 0, 1) := by decide +kernel
theorem d_Model_entry_165 : decode b_Model_entry 165 = .ok (.dup, 1) := by decide +kernel
theorem d_Model_entry_166 : decode b_Model_entry 166 = .ok (.getfield 85, 3) := by decide +kernel
theorem d_Model_entry_169 : decode b_Model_entry 169 = .ok (.iconst 1, 1) := by decide +kernel
theorem d_Model_entry_170 : decode b_Model_entry 170 = .ok (.iadd, 1) := by decide +kernel
theorem d_Model_entry_171 : decode b_Model_entry 171 = .ok (.putfield 85, 3) := by decide +kernel
theorem d_Model_entry_174 : decode b_Model_entry 174 = .ok (.iload_n 2, 1) := by decide +kernel
theorem d_Model_entry_175 : decode b_Model_entry 175 = .ok (.ireturn, 1) := by decide +kernel
theorem d_Model_isTree_0 : decode b_Model_isTree 0 = .ok (.iload_n 1, 1) := by decide +kernel
theorem d_Model_isTree_1 : decode b_Model_isTree 1 = .ok (.ifCond .lt 28, 3) := by decide +kernel
theorem d_Model_isTree_4 : decode b_Model_isTree 4 = .ok (.iload_n 1, 1) := by decide +kernel
theorem d_Model_isTree_5 : decode b_Model_isTree 5 = .ok (.bipush 64, 2) := by decide +kernel
theorem d_Model_isTree_7 : decode b_Model_isTree 7 = .ok (.if_icmp .ge 22, 3) := by decide +kernel
theorem d_Model_isTree_10 : decode b_Model_isTree 10 = .ok (.aload_n 0, 1) := by decide +kernel
theorem d_Model_isTree_11 : decode b_Model_isTree 11 = .ok (.getfield 36, 3) := by decide +kernel
theorem d_Model_isTree_14 : decode b_Model_isTree 14 = .ok (.iconst 0, 1) := by decide +kernel
theorem d_Model_isTree_15 : decode b_Model_isTree 15 = .ok (.laload, 1) := by decide +kernel
theorem d_Model_isTree_16 : decode b_Model_isTree 16 = .ok (.iload_n 1, 1) := by decide +kernel
theorem d_Model_isTree_17 : decode b_Model_isTree 17 = .ok (.lshr, 1) := by decide +kernel
theorem d_Model_isTree_18 : decode b_Model_isTree 18 = .ok (.lconst 1, 1) := by decide +kernel
theorem d_Model_isTree_19 : decode b_Model_isTree 19 = .ok (.land, 1) := by decide +kernel
theorem d_Model_isTree_20 : decode b_Model_isTree 20 = .ok (.lconst 1, 1) := by decide +kernel
theorem d_Model_isTree_21 : decode b_Model_isTree 21 = .ok (.lcmp, 1) := by decide +kernel
theorem d_Model_isTree_22 : decode b_Model_isTree 22 = .ok (.ifCond .ne 7, 3) := by decide +kernel
theorem d_Model_isTree_25 : decode b_Model_isTree 25 = .ok (.iconst 1, 1) := by decide +kernel
theorem d_Model_isTree_26 : decode b_Model_isTree 26 = .ok (.goto 4, 3) := by decide +kernel
theorem d_Model_isTree_29 : decode b_Model_isTree 29 = .ok (.iconst 0, 1) := by decide +kernel
theorem d_Model_isTree_30 : decode b_Model_isTree 30 = .ok (.ireturn, 1) := by decide +kernel
theorem d_Model_fails_0 : decode b_Model_fails 0 = .ok (.aload_n 0, 1) := by decide +kernel
theorem d_Model_fails_1 : decode b_Model_fails 1 = .ok (.iload_n 1, 1) := by decide +kernel
theorem d_Model_fails_2 : decode b_Model_fails 2 = .ok (.ifCond .eq 7, 3) := by decide +kernel
theorem d_Model_fails_5 : decode b_Model_fails 5 = .ok (.iconst 1, 1) := by decide +kernel
theorem d_Model_fails_6 : decode b_Model_fails 6 = .ok (.goto 16, 3) := by decide +kernel
theorem d_Model_fails_9 : decode b_Model_fails 9 = .ok (.aload_n 0, 1) := by decide +kernel
theorem d_Model_fails_10 : decode b_Model_fails 10 = .ok (.iload_n 2, 1) := by decide +kernel
theorem d_Model_fails_11 : decode b_Model_fails 11 = .ok (.invokevirtual 97, 3) := by decide +kernel
theorem d_Model_fails_14 : decode b_Model_fails 14 = .ok (.ifCond .eq 7, 3) := by decide +kernel
theorem d_Model_fails_17 : decode b_Model_fails 17 = .ok (.iconst 0, 1) := by decide +kernel
theorem d_Model_fails_18 : decode b_Model_fails 18 = .ok (.goto 4, 3) := by decide +kernel
theorem d_Model_fails_21 : decode b_Model_fails 21 = .ok (.iconst 2, 1) := by decide +kernel
theorem d_Model_fails_22 : decode b_Model_fails 22 = .ok (.putfield 56, 3) := by decide +kernel
theorem d_Model_fails_25 : decode b_Model_fails 25 = .ok (.aload_n 0, 1) := by decide +kernel
theorem d_Model_fails_26 : decode b_Model_fails 26 = .ok (.getfield 56, 3) := by decide +kernel
theorem d_Model_fails_29 : decode b_Model_fails 29 = .ok (.ifCond .le 7, 3) := by decide +kernel
theorem d_Model_fails_32 : decode b_Model_fails 32 = .ok (.iconst 1, 1) := by decide +kernel
theorem d_Model_fails_33 : decode b_Model_fails 33 = .ok (.goto 4, 3) := by decide +kernel
theorem d_Model_fails_36 : decode b_Model_fails 36 = .ok (.iconst 0, 1) := by decide +kernel
theorem d_Model_fails_37 : decode b_Model_fails 37 = .ok (.ireturn, 1) := by decide +kernel
theorem d_Model_tree_0 : decode b_Model_tree 0 = .ok (.iconst 0, 1) := by decide +kernel
theorem d_Model_tree_1 : decode b_Model_tree 1 = .ok (.istore_n 1, 1) := by decide +kernel
theorem d_Model_tree_2 : decode b_Model_tree 2 = .ok (.iload_n 1, 1) := by decide +kernel
theorem d_Model_tree_3 : decode b_Model_tree 3 = .ok (.bipush 64, 2) := by decide +kernel
theorem d_Model_tree_5 : decode b_Model_tree 5 = .ok (.if_icmp .ge 17, 3) := by decide +kernel
theorem d_Model_tree_8 : decode b_Model_tree 8 = .ok (.aload_n 0, 1) := by decide +kernel
theorem d_Model_tree_9 : decode b_Model_tree 9 = .ok (.iload_n 1, 1) := by decide +kernel
theorem d_Model_tree_10 : decode b_Model_tree 10 = .ok (.invokevirtual 97, 3) := by decide +kernel
theorem d_Model_tree_13 : decode b_Model_tree 13 = .ok (.ifCond .eq 9, 3) := by decide +kernel
theorem d_Model_tree_16 : decode b_Model_tree 16 = .ok (.iinc 1 1, 3) := by decide +kernel
theorem d_Model_tree_19 : decode b_Model_tree 19 = .ok (.goto (-17), 3) := by decide +kernel
theorem d_Model_tree_22 : decode b_Model_tree 22 = .ok (.aload_n 0, 1) := by decide +kernel
theorem d_Model_tree_23 : decode b_Model_tree 23 = .ok (.aload_n 0, 1) := by decide +kernel
theorem d_Model_tree_24 : decode b_Model_tree 24 = .ok (.getfield 65, 3) := by decide +kernel
theorem d_Model_tree_27 : decode b_Model_tree 27 = .ok (.ifCond .ne 16, 3) := by decide +kernel
theorem d_Model_tree_30 : decode b_Model_tree 30 = .ok (.aload_n 0, 1) := by decide +kernel
theorem d_Model_tree_31 : decode b_Model_tree 31 = .ok (.getfield 101, 3) := by decide +kernel
theorem d_Model_tree_34 : decode b_Model_tree 34 = .ok (.ifCond .eq 9, 3) := by decide +kernel
theorem d_Model_tree_37 : decode b_Model_tree 37 = .ok (.iload_n 1, 1) := by decide +kernel
theorem d_Model_tree_38 : decode b_Model_tree 38 = .ok (.bipush 64, 2) := by decide +kernel
theorem d_Model_tree_40 : decode b_Model_tree 40 = .ok (.if_icmp .ne 7, 3) := by decide +kernel
theorem d_Model_tree_43 : decode b_Model_tree 43 = .ok (.iconst 1, 1) := by decide +kernel
theorem d_Model_tree_44 : decode b_Model_tree 44 = .ok (.goto 4, 3) := by decide +kernel
theorem d_Model_tree_47 : decode b_Model_tree 47 = .ok (.iconst 0, 1) := by decide +kernel
theorem d_Model_tree_48 : decode b_Model_tree 48 = .ok (.putfield 56, 3) := by decide +kernel
theorem d_Model_tree_51 : decode b_Model_tree 51 = .ok (.aload_n 0, 1) := by decide +kernel
theorem d_Model_tree_52 : decode b_Model_tree 52 = .ok (.getfield 56, 3) := by decide +kernel
theorem d_Model_tree_55 : decode b_Model_tree 55 = .ok (.ifCond .le 5, 3) := by decide +kernel
theorem d_Model_tree_58 : decode b_Model_tree 58 = .ok (.iconst 0, 1) := by decide +kernel
theorem d_Model_tree_59 : decode b_Model_tree 59 = .ok (.ireturn, 1) := by decide +kernel
theorem d_Model_tree_60 : decode b_Model_tree 60 = .ok (.aload_n 0, 1) := by decide +kernel
theorem d_Model_tree_61 : decode b_Model_tree 61 = .ok (.getfield 36, 3) := by decide +kernel
theorem d_Model_tree_64 : decode b_Model_tree 64 = .ok (.iconst 0, 1) := by decide +kernel
theorem d_Model_tree_65 : decode b_Model_tree 65 = .ok (.aload_n 0, 1) := by decide +kernel
theorem d_Model_tree_66 : decode b_Model_tree 66 = .ok (.getfield 36, 3) := by decide +kernel
theorem d_Model_tree_69 : decode b_Model_tree 69 = .ok (.iconst 0, 1) := by decide +kernel
theorem d_Model_tree_70 : decode b_Model_tree 70 = .ok (.laload, 1) := by decide +kernel
theorem d_Model_tree_71 : decode b_Model_tree 71 = .ok (.lconst 1, 1) := by decide +kernel
theorem d_Model_tree_72 : decode b_Model_tree 72 = .ok (.iload_n 1, 1) := by decide +kernel
theorem d_Model_tree_73 : decode b_Model_tree 73 = .ok (.lshl, 1) := by decide +kernel
theorem d_Model_tree_74 : decode b_Model_tree 74 = .ok (.lor, 1) := by decide +kernel
theorem d_Model_tree_75 : decode b_Model_tree 75 = .ok (.lastore, 1) := by decide +kernel
theorem d_Model_tree_76 : decode b_Model_tree 76 = .ok (.iload_n 1, 1) := by decide +kernel
theorem d_Model_tree_77 : decode b_Model_tree 77 = .ok (.ireturn, 1) := by decide +kernel
theorem d_Model_drop_0 : decode b_Model_drop 0 = .ok (.aload_n 0, 1) := by decide +kernel
theorem d_Model_drop_1 : decode b_Model_drop 1 = .ok (.aload_n 0, 1) := by decide +kernel
theorem d_Model_drop_2 : decode b_Model_drop 2 = .ok (.getfield 65, 3) := by decide +kernel
theorem d_Model_drop_5 : decode b_Model_drop 5 = .ok (.ifCond .ne 10, 3) := by decide +kernel
theorem d_Model_drop_8 : decode b_Model_drop 8 = .ok (.aload_n 0, 1) := by decide +kernel
theorem d_Model_drop_9 : decode b_Model_drop 9 = .ok (.getfield 101, 3) := by decide +kernel
theorem d_Model_drop_12 : decode b_Model_drop 12 = .ok (.ifCond .ne 7, 3) := by decide +kernel
theorem d_Model_drop_15 : decode b_Model_drop 15 = .ok (.iconst 1, 1) := by decide +kernel
theorem d_Model_drop_16 : decode b_Model_drop 16 = .ok (.goto 4, 3) := by decide +kernel
theorem d_Model_drop_19 : decode b_Model_drop 19 = .ok (.iconst 0, 1) := by decide +kernel
theorem d_Model_drop_20 : decode b_Model_drop 20 = .ok (.iload_n 1, 1) := by decide +kernel
theorem d_Model_drop_21 : decode b_Model_drop 21 = .ok (.invokevirtual 104, 3) := by decide +kernel
theorem d_Model_drop_24 : decode b_Model_drop 24 = .ok (.ifCond .eq 5, 3) := by decide +kernel
theorem d_Model_drop_27 : decode b_Model_drop 27 = .ok (.iconst 0, 1) := by decide +kernel
theorem d_Model_drop_28 : decode b_Model_drop 28 = .ok (.ireturn, 1) := by decide +kernel
theorem d_Model_drop_29 : decode b_Model_drop 29 = .ok (.aload_n 0, 1) := by decide +kernel
theorem d_Model_drop_30 : decode b_Model_drop 30 = .ok (.iload_n 1, 1) := by decide +kernel
theorem d_Model_drop_31 : decode b_Model_drop 31 = .ok (.invokevirtual 108, 3) := by decide +kernel
theorem d_Model_drop_34 : decode b_Model_drop 34 = .ok (.istore_n 2, 1) := by decide +kernel
theorem d_Model_drop_35 : decode b_Model_drop 35 = .ok (.iconst 0, 1) := by decide +kernel
theorem d_Model_drop_36 : decode b_Model_drop 36 = .ok (.istore_n 3, 1) := by decide +kernel
theorem d_Model_drop_37 : decode b_Model_drop 37 = .ok (.iconst 0, 1) := by decide +kernel
theorem d_Model_drop_38 : decode b_Model_drop 38 = .ok (.istore 4, 2) := by decide +kernel
theorem d_Model_drop_40 : decode b_Model_drop 40 = .ok (.iload 4, 2) := by decide +kernel
theorem d_Model_drop_42 : decode b_Model_drop 42 = .ok (.aload_n 0, 1) := by decide +kernel
theorem d_Model_drop_43 : decode b_Model_drop 43 = .ok (.getfield 33, 3) := by decide +kernel
theorem d_Model_drop_46 : decode b_Model_drop 46 = .ok (.iconst 0, 1) := by decide +kernel
theorem d_Model_drop_47 : decode b_Model_drop 47 = .ok (.iaload, 1) := by decide +kernel
theorem d_Model_drop_48 : decode b_Model_drop 48 = .ok (.if_icmp .ge 44, 3) := by decide +kernel
theorem d_Model_drop_51 : decode b_Model_drop 51 = .ok (.aload_n 0, 1) := by decide +kernel
theorem d_Model_drop_52 : decode b_Model_drop 52 = .ok (.getfield 7, 3) := by decide +kernel
theorem d_Model_drop_55 : decode b_Model_drop 55 = .ok (.aload_n 0, 1) := by decide +kernel
theorem d_Model_drop_56 : decode b_Model_drop 56 = .ok (.getfield 30, 3) := by decide +kernel
theorem d_Model_drop_59 : decode b_Model_drop 59 = .ok (.iload 4, 2) := by decide +kernel
theorem d_Model_drop_61 : decode b_Model_drop 61 = .ok (.iaload, 1) := by decide +kernel
theorem d_Model_drop_62 : decode b_Model_drop 62 = .ok (.iaload, 1) := by decide +kernel
theorem d_Model_drop_63 : decode b_Model_drop 63 = .ok (.iload_n 1, 1) := by decide +kernel
theorem d_Model_drop_64 : decode b_Model_drop 64 = .ok (.if_icmp .ne 6, 3) := by decide +kernel
theorem d_Model_drop_67 : decode b_Model_drop 67 = .ok (.goto 19, 3) := by decide +kernel
theorem d_Model_drop_70 : decode b_Model_drop 70 = .ok (.aload_n 0, 1) := by decide +kernel
theorem d_Model_drop_71 : decode b_Model_drop 71 = .ok (.getfield 30, 3) := by decide +kernel
theorem d_Model_drop_74 : decode b_Model_drop 74 = .ok (.iload_n 3, 1) := by decide +kernel
theorem d_Model_drop_75 : decode b_Model_drop 75 = .ok (.aload_n 0, 1) := by decide +kernel
theorem d_Model_drop_76 : decode b_Model_drop 76 = .ok (.getfield 30, 3) := by decide +kernel
theorem d_Model_drop_79 : decode b_Model_drop 79 = .ok (.iload 4, 2) := by decide +kernel
theorem d_Model_drop_81 : decode b_Model_drop 81 = .ok (.iaload, 1) := by decide +kernel
theorem d_Model_drop_82 : decode b_Model_drop 82 = .ok (.iastore, 1) := by decide +kernel
theorem d_Model_drop_83 : decode b_Model_drop 83 = .ok (.iinc 3 1, 3) := by decide +kernel
theorem d_Model_drop_86 : decode b_Model_drop 86 = .ok (.iinc 4 1, 3) := by decide +kernel
theorem d_Model_drop_89 : decode b_Model_drop 89 = .ok (.goto (-49), 3) := by decide +kernel
theorem d_Model_drop_92 : decode b_Model_drop 92 = .ok (.aload_n 0, 1) := by decide +kernel
theorem d_Model_drop_93 : decode b_Model_drop 93 = .ok (.getfield 33, 3) := by decide +kernel
theorem d_Model_drop_96 : decode b_Model_drop 96 = .ok (.iconst 0, 1) := by decide +kernel
theorem d_Model_drop_97 : decode b_Model_drop 97 = .ok (.iload_n 3, 1) := by decide +kernel
theorem d_Model_drop_98 : decode b_Model_drop 98 = .ok (.iastore, 1) := by decide +kernel
theorem d_Model_drop_99 : decode b_Model_drop 99 = .ok (.aload_n 0, 1) := by decide +kernel
theorem d_Model_drop_100 : decode b_Model_drop 100 = .ok (.getfield 36, 3) := by decide +kernel
theorem d_Model_drop_103 : decode b_Model_drop 103 = .ok (.iconst 0, 1) := by decide +kernel
theorem d_Model_drop_104 : decode b_Model_drop 104 = .ok (.aload_n 0, 1) := by decide +kernel
theorem d_Model_drop_105 : decode b_Model_drop 105 = .ok (.getfield 36, 3) := by decide +kernel
theorem d_Model_drop_108 : decode b_Model_drop 108 = .ok (.iconst 0, 1) := by decide +kernel
theorem d_Model_drop_109 : decode b_Model_drop 109 = .ok (.laload, 1) := by decide +kernel
theorem d_Model_drop_110 : decode b_Model_drop 110 = .ok (.lconst 1, 1) := by decide +kernel
theorem d_Model_drop_111 : decode b_Model_drop 111 = .ok (.iload_n 1, 1) := by decide +kernel
theorem d_Model_drop_112 : decode b_Model_drop 112 = .ok (.lshl, 1) := by decide +kernel
theorem d_Model_drop_113 : decode b_Model_drop 113 = .ok (.ldc2_w 111, 3) := by decide +kernel
theorem d_Model_drop_116 : decode b_Model_drop 116 = .ok (.lxor, 1) := by decide +kernel
theorem d_Model_drop_117 : decode b_Model_drop 117 = .ok (.land, 1) := by decide +kernel
theorem d_Model_drop_118 : decode b_Model_drop 118 = .ok (.lastore, 1) := by decide +kernel
theorem d_Model_drop_119 : decode b_Model_drop 119 = .ok (.iload_n 2, 1) := by decide +kernel
theorem d_Model_drop_120 : decode b_Model_drop 120 = .ok (.ireturn, 1) := by decide +kernel
theorem d_Model_out_0 : decode b_Model_out 0 = .ok (.aload_n 0, 1) := by decide +kernel
theorem d_Model_out_1 : decode b_Model_out 1 = .ok (.getfield 33, 3) := by decide +kernel
theorem d_Model_out_4 : decode b_Model_out 4 = .ok (.iconst 0, 1) := by decide +kernel
theorem d_Model_out_5 : decode b_Model_out 5 = .ok (.dup2, 1) := by decide +kernel
theorem d_Model_out_6 : decode b_Model_out 6 = .ok (.iaload, 1) := by decide +kernel
theorem d_Model_out_7 : decode b_Model_out 7 = .ok (.iconst 1, 1) := by decide +kernel
theorem d_Model_out_8 : decode b_Model_out 8 = .ok (.isub, 1) := by decide +kernel
theorem d_Model_out_9 : decode b_Model_out 9 = .ok (.iastore, 1) := by decide +kernel
theorem d_Model_out_10 : decode b_Model_out 10 = .ok (.iload_n 1, 1) := by decide +kernel
theorem d_Model_out_11 : decode b_Model_out 11 = .ok (.istore_n 2, 1) := by decide +kernel
theorem d_Model_out_12 : decode b_Model_out 12 = .ok (.iload_n 2, 1) := by decide +kernel
theorem d_Model_out_13 : decode b_Model_out 13 = .ok (.aload_n 0, 1) := by decide +kernel
theorem d_Model_out_14 : decode b_Model_out 14 = .ok (.getfield 33, 3) := by decide +kernel
theorem d_Model_out_17 : decode b_Model_out 17 = .ok (.iconst 0, 1) := by decide +kernel
theorem d_Model_out_18 : decode b_Model_out 18 = .ok (.iaload, 1) := by decide +kernel
theorem d_Model_out_19 : decode b_Model_out 19 = .ok (.if_icmp .ge 23, 3) := by decide +kernel
theorem d_Model_out_22 : decode b_Model_out 22 = .ok (.aload_n 0, 1) := by decide +kernel
theorem d_Model_out_23 : decode b_Model_out 23 = .ok (.getfield 30, 3) := by decide +kernel
theorem d_Model_out_26 : decode b_Model_out 26 = .ok (.iload_n 2, 1) := by decide +kernel
theorem d_Model_out_27 : decode b_Model_out 27 = .ok (.aload_n 0, 1) := by decide +kernel
theorem d_Model_out_28 : decode b_Model_out 28 = .ok (.getfield 30, 3) := by decide +kernel
theorem d_Model_out_31 : decode b_Model_out 31 = .ok (.iload_n 2, 1) := by decide +kernel
theorem d_Model_out_32 : decode b_Model_out 32 = .ok (.iconst 1, 1) := by decide +kernel
theorem d_Model_out_33 : decode b_Model_out 33 = .ok (.iadd, 1) := by decide +kernel
theorem d_Model_out_34 : decode b_Model_out 34 = .ok (.iaload, 1) := by decide +kernel
theorem d_Model_out_35 : decode b_Model_out 35 = .ok (.iastore, 1) := by decide +kernel
theorem d_Model_out_36 : decode b_Model_out 36 = .ok (.iinc 2 1, 3) := by decide +kernel
theorem d_Model_out_39 : decode b_Model_out 39 = .ok (.goto (-27), 3) := by decide +kernel
theorem d_Model_out_42 : decode b_Model_out 42 = .ok (.return_, 1) := by decide +kernel
theorem d_Model_put_0 : decode b_Model_put 0 = .ok (.aload_n 0, 1) := by decide +kernel
theorem d_Model_put_1 : decode b_Model_put 1 = .ok (.aload_n 0, 1) := by decide +kernel
theorem d_Model_put_2 : decode b_Model_put 2 = .ok (.getfield 65, 3) := by decide +kernel
theorem d_Model_put_5 : decode b_Model_put 5 = .ok (.ifCond .ne 10, 3) := by decide +kernel
theorem d_Model_put_8 : decode b_Model_put 8 = .ok (.aload_n 0, 1) := by decide +kernel
theorem d_Model_put_9 : decode b_Model_put 9 = .ok (.getfield 101, 3) := by decide +kernel
theorem d_Model_put_12 : decode b_Model_put 12 = .ok (.ifCond .ne 7, 3) := by decide +kernel
theorem d_Model_put_15 : decode b_Model_put 15 = .ok (.iconst 1, 1) := by decide +kernel
theorem d_Model_put_16 : decode b_Model_put 16 = .ok (.goto 4, 3) := by decide +kernel
theorem d_Model_put_19 : decode b_Model_put 19 = .ok (.iconst 0, 1) := by decide +kernel
theorem d_Model_put_20 : decode b_Model_put 20 = .ok (.iload_n 1, 1) := by decide +kernel
theorem d_Model_put_21 : decode b_Model_put 21 = .ok (.invokevirtual 104, 3) := by decide +kernel
theorem d_Model_put_24 : decode b_Model_put 24 = .ok (.ifCond .eq 5, 3) := by decide +kernel
theorem d_Model_put_27 : decode b_Model_put 27 = .ok (.iconst 0, 1) := by decide +kernel
theorem d_Model_put_28 : decode b_Model_put 28 = .ok (.ireturn, 1) := by decide +kernel
theorem d_Model_put_29 : decode b_Model_put 29 = .ok (.aload_n 0, 1) := by decide +kernel
theorem d_Model_put_30 : decode b_Model_put 30 = .ok (.getfield 59, 3) := by decide +kernel
theorem d_Model_put_33 : decode b_Model_put 33 = .ok (.ifCond .ne 10, 3) := by decide +kernel
theorem d_Model_put_36 : decode b_Model_put 36 = .ok (.aload_n 0, 1) := by decide +kernel
theorem d_Model_put_37 : decode b_Model_put 37 = .ok (.iconst 3, 1) := by decide +kernel
theorem d_Model_put_38 : decode b_Model_put 38 = .ok (.putfield 56, 3) := by decide +kernel
theorem d_Model_put_41 : decode b_Model_put 41 = .ok (.iconst 0, 1) := by decide +kernel
theorem d_Model_put_42 : decode b_Model_put 42 = .ok (.ireturn, 1) := by decide +kernel
theorem d_Model_put_43 : decode b_Model_put 43 = .ok (.aload_n 0, 1) := by decide +kernel
theorem d_Model_put_44 : decode b_Model_put 44 = .ok (.iload_n 1, 1) := by decide +kernel
theorem d_Model_put_45 : decode b_Model_put 45 = .ok (.invokevirtual 113, 3) := by decide +kernel
theorem d_Model_put_48 : decode b_Model_put 48 = .ok (.istore_n 2, 1) := by decide +kernel
theorem d_Model_put_49 : decode b_Model_put 49 = .ok (.aload_n 0, 1) := by decide +kernel
theorem d_Model_put_50 : decode b_Model_put 50 = .ok (.iload_n 2, 1) := by decide +kernel
theorem d_Model_put_51 : decode b_Model_put 51 = .ok (.iload_n 1, 1) := by decide +kernel
theorem d_Model_put_52 : decode b_Model_put 52 = .ok (.invokevirtual 116, 3) := by decide +kernel
theorem d_Model_put_55 : decode b_Model_put 55 = .ok (.istore_n 3, 1) := by decide +kernel
theorem d_Model_put_56 : decode b_Model_put 56 = .ok (.iload_n 3, 1) := by decide +kernel
theorem d_Model_put_57 : decode b_Model_put 57 = .ok (.ifCond .eq 32, 3) := by decide +kernel
theorem d_Model_put_60 : decode b_Model_put 60 = .ok (.bipush 16, 2) := by decide +kernel
theorem d_Model_put_62 : decode b_Model_put 62 = .ok (.aload_n 0, 1) := by decide +kernel
theorem d_Model_put_63 : decode b_Model_put 63 = .ok (.getfield 16, 3) := by decide +kernel
theorem d_Model_put_66 : decode b_Model_put 66 = .ok (.aload_n 0, 1) := by decide +kernel
theorem d_Model_put_67 : decode b_Model_put 67 = .ok (.getfield 30, 3) := by decide +kernel
theorem d_Model_put_70 : decode b_Model_put 70 = .ok (.iload_n 2, 1) := by decide +kernel
theorem d_Model_put_71 : decode b_Model_put 71 = .ok (.iaload, 1) := by decide +kernel
theorem d_Model_put_72 : decode b_Model_put 72 = .ok (.iaload, 1) := by decide +kernel
theorem d_Model_put_73 : decode b_Model_put 73 = .ok (.iadd, 1) := by decide +kernel
theorem d_Model_put_74 : decode b_Model_put 74 = .ok (.aload_n 0, 1) := by decide +kernel
theorem d_Model_put_75 : decode b_Model_put 75 = .ok (.getfield 19, 3) := by decide +kernel
theorem d_Model_put_78 : decode b_Model_put 78 = .ok (.aload_n 0, 1) := by decide +kernel
theorem d_Model_put_79 : decode b_Model_put 79 = .ok (.getfield 30, 3) := by decide +kernel
theorem d_Model_put_82 : decode b_Model_put 82 = .ok (.iload_n 2, 1) := by decide +kernel
theorem d_Model_put_83 : decode b_Model_put 83 = .ok (.iaload, 1) := by decide +kernel
theorem d_Model_put_84 : decode b_Model_put 84 = .ok (.iaload, 1) := by decide +kernel
theorem d_Model_put_85 : decode b_Model_put 85 = .ok (.iadd, 1) := by decide +kernel
theorem d_Model_put_86 : decode b_Model_put 86 = .ok (.goto 4, 3) := by decide +kernel
theorem d_Model_put_89 : decode b_Model_put 89 = .ok (.iconst 0, 1) := by decide +kernel
theorem d_Model_put_90 : decode b_Model_put 90 = .ok (.istore 4, 2) := by decide +kernel
theorem d_Model_put_92 : decode b_Model_put 92 = .ok (.aload_n 0, 1) := by decide +kernel
theorem d_Model_put_93 : decode b_Model_put 93 = .ok (.invokevirtual 120, 3) := by decide +kernel
theorem d_Model_put_96 : decode b_Model_put 96 = .ok (.iload 4, 2) := by decide +kernel
theorem d_Model_put_98 : decode b_Model_put 98 = .ok (.isub, 1) := by decide +kernel
theorem d_Model_put_99 : decode b_Model_put 99 = .ok (.bipush 16, 2) := by decide +kernel
theorem d_Model_put_101 : decode b_Model_put 101 = .ok (.iadd, 1) := by decide +kernel
theorem d_Model_put_102 : decode b_Model_put 102 = .ok (.aload_n 0, 1) := by decide +kernel
theorem d_Model_put_103 : decode b_Model_put 103 = .ok (.getfield 59, 3) := by decide +kernel
theorem d_Model_put_106 : decode b_Model_put 106 = .ok (.iadd, 1) := by decide +kernel
theorem d_Model_put_107 : decode b_Model_put 107 = .ok (.aload_n 0, 1) := by decide +kernel
theorem d_Model_put_108 : decode b_Model_put 108 = .ok (.getfield 62, 3) := by decide +kernel
theorem d_Model_put_111 : decode b_Model_put 111 = .ok (.iadd, 1) := by decide +kernel
theorem d_Model_put_112 : decode b_Model_put 112 = .ok (.ldc 124, 2) := by decide +kernel
theorem d_Model_put_114 : decode b_Model_put 114 = .ok (.if_icmp .le 10, 3) := by decide +kernel
theorem d_Model_put_117 : decode b_Model_put 117 = .ok (.aload_n 0, 1) := by decide +kernel
theorem d_Model_put_118 : decode b_Model_put 118 = .ok (.iconst 1, 1) := by decide +kernel
theorem d_Model_put_119 : decode b_Model_put 119 = .ok (.putfield 56, 3) := by decide +kernel
theorem d_Model_put_122 : decode b_Model_put 122 = .ok (.iconst 0, 1) := by decide +kernel
theorem d_Model_put_123 : decode b_Model_put 123 = .ok (.ireturn, 1) := by decide +kernel
theorem d_Model_put_124 : decode b_Model_put 124 = .ok (.iload_n 3, 1) := by decide +kernel
theorem d_Model_put_125 : decode b_Model_put 125 = .ok (.ifCond .eq 8, 3) := by decide +kernel
theorem d_Model_put_128 : decode b_Model_put 128 = .ok (.aload_n 0, 1) := by decide +kernel
theorem d_Model_put_129 : decode b_Model_put 129 = .ok (.iload_n 2, 1) := by decide +kernel
theorem d_Model_put_130 : decode b_Model_put 130 = .ok (.invokevirtual 125, 3) := by decide +kernel
theorem d_Model_put_133 : decode b_Model_put 133 = .ok (.aload_n 0, 1) := by decide +kernel
theorem d_Model_put_134 : decode b_Model_put 134 = .ok (.iload_n 1, 1) := by decide +kernel
theorem d_Model_put_135 : decode b_Model_put 135 = .ok (.invokevirtual 129, 3) := by decide +kernel
theorem d_Model_put_138 : decode b_Model_put 138 = .ok (.istore 5, 2) := by decide +kernel
theorem d_Model_put_140 : decode b_Model_put 140 = .ok (.aload_n 0, 1) := by decide +kernel
theorem d_Model_put_141 : decode b_Model_put 141 = .ok (.getfield 33, 3) := by decide +kernel
theorem d_Model_put_144 : decode b_Model_put 144 = .ok (.iconst 0, 1) := by decide +kernel
theorem d_Model_put_145 : decode b_Model_put 145 = .ok (.iaload, 1) := by decide +kernel
theorem d_Model_put_146 : decode b_Model_put 146 = .ok (.istore 6, 2) := by decide +kernel
theorem d_Model_put_148 : decode b_Model_put 148 = .ok (.iload 6, 2) := by decide +kernel
theorem d_Model_put_150 : decode b_Model_put 150 = .ok (.iload_n 2, 1) := by decide +kernel
theorem d_Model_put_151 : decode b_Model_put 151 = .ok (.if_icmp .le 25, 3) := by decide +kernel
theorem d_Model_put_154 : decode b_Model_put 154 = .ok (.aload_n 0, 1) := by decide +kernel
theorem d_Model_put_155 : decode b_Model_put 155 = .ok (.getfield 30, 3) := by decide +kernel
theorem d_Model_put_158 : decode b_Model_put 158 = .ok (.iload 6, 2) := by decide +kernel
theorem d_Model_put_160 : decode b_Model_put 160 = .ok (.aload_n 0, 1) := by decide +kernel
theorem d_Model_put_161 : decode b_Model_put 161 = .ok (.getfield 30, 3) := by decide +kernel
theorem d_Model_put_164 : decode b_Model_put 164 = .ok (.iload 6, 2) := by decide +kernel
theorem d_Model_put_166 : decode b_Model_put 166 = .ok (.iconst 1, 1) := by decide +kernel
theorem d_Model_put_167 : decode b_Model_put 167 = .ok (.isub, 1) := by decide +kernel
theorem d_Model_put_168 : decode b_Model_put 168 = .ok (.iaload, 1) := by decide +kernel
theorem d_Model_put_169 : decode b_Model_put 169 = .ok (.iastore, 1) := by decide +kernel
theorem d_Model_put_170 : decode b_Model_put 170 = .ok (.iinc 6 (-1), 3) := by decide +kernel
theorem d_Model_put_173 : decode b_Model_put 173 = .ok (.goto (-25), 3) := by decide +kernel
theorem d_Model_put_176 : decode b_Model_put 176 = .ok (.aload_n 0, 1) := by decide +kernel
theorem d_Model_put_177 : decode b_Model_put 177 = .ok (.getfield 30, 3) := by decide +kernel
theorem d_Model_put_180 : decode b_Model_put 180 = .ok (.iload_n 2, 1) := by decide +kernel
theorem d_Model_put_181 : decode b_Model_put 181 = .ok (.iload 5, 2) := by decide +kernel
theorem d_Model_put_183 : decode b_Model_put 183 = .ok (.iastore, 1) := by decide +kernel
theorem d_Model_put_184 : decode b_Model_put 184 = .ok (.aload_n 0, 1) := by decide +kernel
theorem d_Model_put_185 : decode b_Model_put 185 = .ok (.getfield 33, 3) := by decide +kernel
theorem d_Model_put_188 : decode b_Model_put 188 = .ok (.iconst 0, 1) := by decide +kernel
theorem d_Model_put_189 : decode b_Model_put 189 = .ok (.dup2, 1) := by decide +kernel
theorem d_Model_put_190 : decode b_Model_put 190 = .ok (.iaload, 1) := by decide +kernel
theorem d_Model_put_191 : decode b_Model_put 191 = .ok (.iconst 1, 1) := by decide +kernel
theorem d_Model_put_192 : decode b_Model_put 192 = .ok (.iadd, 1) := by decide +kernel
theorem d_Model_put_193 : decode b_Model_put 193 = .ok (.iastore, 1) := by decide +kernel
theorem d_Model_put_194 : decode b_Model_put 194 = .ok (.iload_n 3, 1) := by decide +kernel
theorem d_Model_put_195 : decode b_Model_put 195 = .ok (.ireturn, 1) := by decide +kernel
theorem d_Model_remove_0 : decode b_Model_remove 0 = .ok (.aload_n 0, 1) := by decide +kernel
theorem d_Model_remove_1 : decode b_Model_remove 1 = .ok (.aload_n 0, 1) := by decide +kernel
theorem d_Model_remove_2 : decode b_Model_remove 2 = .ok (.getfield 65, 3) := by decide +kernel
theorem d_Model_remove_5 : decode b_Model_remove 5 = .ok (.ifCond .ne 10, 3) := by decide +kernel
theorem d_Model_remove_8 : decode b_Model_remove 8 = .ok (.aload_n 0, 1) := by decide +kernel
theorem d_Model_remove_9 : decode b_Model_remove 9 = .ok (.getfield 101, 3) := by decide +kernel
theorem d_Model_remove_12 : decode b_Model_remove 12 = .ok (.ifCond .ne 7, 3) := by decide +kernel
theorem d_Model_remove_15 : decode b_Model_remove 15 = .ok (.iconst 1, 1) := by decide +kernel
theorem d_Model_remove_16 : decode b_Model_remove 16 = .ok (.goto 4, 3) := by decide +kernel
theorem d_Model_remove_19 : decode b_Model_remove 19 = .ok (.iconst 0, 1) := by decide +kernel
theorem d_Model_remove_20 : decode b_Model_remove 20 = .ok (.iload_n 1, 1) := by decide +kernel
theorem d_Model_remove_21 : decode b_Model_remove 21 = .ok (.invokevirtual 104, 3) := by decide +kernel
theorem d_Model_remove_24 : decode b_Model_remove 24 = .ok (.ifCond .eq 5, 3) := by decide +kernel
theorem d_Model_remove_27 : decode b_Model_remove 27 = .ok (.iconst 0, 1) := by decide +kernel
theorem d_Model_remove_28 : decode b_Model_remove 28 = .ok (.ireturn, 1) := by decide +kernel
theorem d_Model_remove_29 : decode b_Model_remove 29 = .ok (.aload_n 0, 1) := by decide +kernel
theorem d_Model_remove_30 : decode b_Model_remove 30 = .ok (.iload_n 1, 1) := by decide +kernel
theorem d_Model_remove_31 : decode b_Model_remove 31 = .ok (.invokevirtual 113, 3) := by decide +kernel
theorem d_Model_remove_34 : decode b_Model_remove 34 = .ok (.istore_n 2, 1) := by decide +kernel
theorem d_Model_remove_35 : decode b_Model_remove 35 = .ok (.aload_n 0, 1) := by decide +kernel
theorem d_Model_remove_36 : decode b_Model_remove 36 = .ok (.iload_n 2, 1) := by decide +kernel
theorem d_Model_remove_37 : decode b_Model_remove 37 = .ok (.iload_n 1, 1) := by decide +kernel
theorem d_Model_remove_38 : decode b_Model_remove 38 = .ok (.invokevirtual 116, 3) := by decide +kernel
theorem d_Model_remove_41 : decode b_Model_remove 41 = .ok (.istore_n 3, 1) := by decide +kernel
theorem d_Model_remove_42 : decode b_Model_remove 42 = .ok (.iload_n 3, 1) := by decide +kernel
theorem d_Model_remove_43 : decode b_Model_remove 43 = .ok (.ifCond .eq 8, 3) := by decide +kernel
theorem d_Model_remove_46 : decode b_Model_remove 46 = .ok (.aload_n 0, 1) := by decide +kernel
theorem d_Model_remove_47 : decode b_Model_remove 47 = .ok (.iload_n 2, 1) := by decide +kernel
theorem d_Model_remove_48 : decode b_Model_remove 48 = .ok (.invokevirtual 125, 3) := by decide +kernel
theorem d_Model_remove_51 : decode b_Model_remove 51 = .ok (.iload_n 3, 1) := by decide +kernel
theorem d_Model_remove_52 : decode b_Model_remove 52 = .ok (.ireturn, 1) := by decide +kernel
theorem d_Model_seek_0 : decode b_Model_seek 0 = .ok (.aload_n 0, 1) := by decide +kernel
theorem d_Model_seek_1 : decode b_Model_seek 1 = .ok (.aload_n 0, 1) := by decide +kernel
theorem d_Model_seek_2 : decode b_Model_seek 2 = .ok (.getfield 65, 3) := by decide +kernel
theorem d_Model_seek_5 : decode b_Model_seek 5 = .ok (.iload_n 1, 1) := by decide +kernel
theorem d_Model_seek_6 : decode b_Model_seek 6 = .ok (.invokevirtual 104, 3) := by decide +kernel
theorem d_Model_seek_9 : decode b_Model_seek 9 = .ok (.ifCond .eq 5, 3) := by decide +kernel
theorem d_Model_seek_12 : decode b_Model_seek 12 = .ok (.iconst 0, 1) := by decide +kernel
theorem d_Model_seek_13 : decode b_Model_seek 13 = .ok (.ireturn, 1) := by decide +kernel
theorem d_Model_seek_14 : decode b_Model_seek 14 = .ok (.aload_n 0, 1) := by decide +kernel
theorem d_Model_seek_15 : decode b_Model_seek 15 = .ok (.iload_n 1, 1) := by decide +kernel
theorem d_Model_seek_16 : decode b_Model_seek 16 = .ok (.invokevirtual 113, 3) := by decide +kernel
theorem d_Model_seek_19 : decode b_Model_seek 19 = .ok (.istore_n 3, 1) := by decide +kernel
theorem d_Model_seek_20 : decode b_Model_seek 20 = .ok (.iload_n 2, 1) := by decide +kernel
theorem d_Model_seek_21 : decode b_Model_seek 21 = .ok (.ifCond .eq 15, 3) := by decide +kernel
theorem d_Model_seek_24 : decode b_Model_seek 24 = .ok (.aload_n 0, 1) := by decide +kernel
theorem d_Model_seek_25 : decode b_Model_seek 25 = .ok (.iload_n 3, 1) := by decide +kernel
theorem d_Model_seek_26 : decode b_Model_seek 26 = .ok (.iload_n 1, 1) := by decide +kernel
theorem d_Model_seek_27 : decode b_Model_seek 27 = .ok (.invokevirtual 116, 3) := by decide +kernel
theorem d_Model_seek_30 : decode b_Model_seek 30 = .ok (.ifCond .eq 6, 3) := by decide +kernel
theorem d_Model_seek_33 : decode b_Model_seek 33 = .ok (.iinc 3 1, 3) := by decide +kernel
theorem d_Model_seek_36 : decode b_Model_seek 36 = .ok (.aload_n 0, 1) := by decide +kernel
theorem d_Model_seek_37 : decode b_Model_seek 37 = .ok (.iload_n 3, 1) := by decide +kernel
theorem d_Model_seek_38 : decode b_Model_seek 38 = .ok (.aload_n 0, 1) := by decide +kernel
theorem d_Model_seek_39 : decode b_Model_seek 39 = .ok (.getfield 33, 3) := by decide +kernel
theorem d_Model_seek_42 : decode b_Model_seek 42 = .ok (.iconst 0, 1) := by decide +kernel
theorem d_Model_seek_43 : decode b_Model_seek 43 = .ok (.iaload, 1) := by decide +kernel
theorem d_Model_seek_44 : decode b_Model_seek 44 = .ok (.if_icmp .ge 22, 3) := by decide +kernel
theorem d_Model_seek_47 : decode b_Model_seek 47 = .ok (.aload_n 0, 1) := by decide +kernel
theorem d_Model_seek_48 : decode b_Model_seek 48 = .ok (.getfield 7, 3) := by decide +kernel
theorem d_Model_seek_51 : decode b_Model_seek 51 = .ok (.aload_n 0, 1) := by decide +kernel
theorem d_Model_seek_52 : decode b_Model_seek 52 = .ok (.getfield 30, 3) := by decide +kernel
theorem d_Model_seek_55 : decode b_Model_seek 55 = .ok (.iload_n 3, 1) := by decide +kernel
theorem d_Model_seek_56 : decode b_Model_seek 56 = .ok (.iaload, 1) := by decide +kernel
theorem d_Model_seek_57 : decode b_Model_seek 57 = .ok (.iaload, 1) := by decide +kernel
theorem d_Model_seek_58 : decode b_Model_seek 58 = .ok (.iload_n 1, 1) := by decide +kernel
theorem d_Model_seek_59 : decode b_Model_seek 59 = .ok (.if_icmp .ne 7, 3) := by decide +kernel
theorem d_Model_seek_62 : decode b_Model_seek 62 = .ok (.iconst 1, 1) := by decide +kernel
theorem d_Model_seek_63 : decode b_Model_seek 63 = .ok (.goto 4, 3) := by decide +kernel
theorem d_Model_seek_66 : decode b_Model_seek 66 = .ok (.iconst 0, 1) := by decide +kernel
theorem d_Model_seek_67 : decode b_Model_seek 67 = .ok (.putfield 132, 3) := by decide +kernel
theorem d_Model_seek_70 : decode b_Model_seek 70 = .ok (.aload_n 0, 1) := by decide +kernel
theorem d_Model_seek_71 : decode b_Model_seek 71 = .ok (.getfield 132, 3) := by decide +kernel
theorem d_Model_seek_74 : decode b_Model_seek 74 = .ok (.ifCond .ne 5, 3) := by decide +kernel
theorem d_Model_seek_77 : decode b_Model_seek 77 = .ok (.iconst 0, 1) := by decide +kernel
theorem d_Model_seek_78 : decode b_Model_seek 78 = .ok (.ireturn, 1) := by decide +kernel
theorem d_Model_seek_79 : decode b_Model_seek 79 = .ok (.aload_n 0, 1) := by decide +kernel
theorem d_Model_seek_80 : decode b_Model_seek 80 = .ok (.getfield 30, 3) := by decide +kernel
theorem d_Model_seek_83 : decode b_Model_seek 83 = .ok (.iload_n 3, 1) := by decide +kernel
theorem d_Model_seek_84 : decode b_Model_seek 84 = .ok (.iaload, 1) := by decide +kernel
theorem d_Model_seek_85 : decode b_Model_seek 85 = .ok (.istore 4, 2) := by decide +kernel
theorem d_Model_seek_87 : decode b_Model_seek 87 = .ok (.aload_n 0, 1) := by decide +kernel
theorem d_Model_seek_88 : decode b_Model_seek 88 = .ok (.aload_n 0, 1) := by decide +kernel
theorem d_Model_seek_89 : decode b_Model_seek 89 = .ok (.getfield 16, 3) := by decide +kernel
theorem d_Model_seek_92 : decode b_Model_seek 92 = .ok (.iload 4, 2) := by decide +kernel
theorem d_Model_seek_94 : decode b_Model_seek 94 = .ok (.iaload, 1) := by decide +kernel
theorem d_Model_seek_95 : decode b_Model_seek 95 = .ok (.putfield 135, 3) := by decide +kernel
theorem d_Model_seek_98 : decode b_Model_seek 98 = .ok (.aload_n 0, 1) := by decide +kernel
theorem d_Model_seek_99 : decode b_Model_seek 99 = .ok (.aload_n 0, 1) := by decide +kernel
theorem d_Model_seek_100 : decode b_Model_seek 100 = .ok (.getfield 19, 3) := by decide +kernel
theorem d_Model_seek_103 : decode b_Model_seek 103 = .ok (.iload 4, 2) := by decide +kernel
theorem d_Model_seek_105 : decode b_Model_seek 105 = .ok (.iaload, 1) := by decide +kernel
theorem d_Model_seek_106 : decode b_Model_seek 106 = .ok (.putfield 138, 3) := by decide +kernel
theorem d_Model_seek_109 : decode b_Model_seek 109 = .ok (.iconst 0, 1) := by decide +kernel
theorem d_Model_seek_110 : decode b_Model_seek 110 = .ok (.istore 5, 2) := by decide +kernel
theorem d_Model_seek_112 : decode b_Model_seek 112 = .ok (.iload 5, 2) := by decide +kernel
theorem d_Model_seek_114 : decode b_Model_seek 114 = .ok (.aload_n 0, 1) := by decide +kernel
theorem d_Model_seek_115 : decode b_Model_seek 115 = .ok (.getfield 135, 3) := by decide +kernel
theorem d_Model_seek_118 : decode b_Model_seek 118 = .ok (.if_icmp .ge 31, 3) := by decide +kernel
theorem d_Model_seek_121 : decode b_Model_seek 121 = .ok (.aload_n 0, 1) := by decide +kernel
theorem d_Model_seek_122 : decode b_Model_seek 122 = .ok (.getfield 46, 3) := by decide +kernel
theorem d_Model_seek_125 : decode b_Model_seek 125 = .ok (.iload 5, 2) := by decide +kernel
theorem d_Model_seek_127 : decode b_Model_seek 127 = .ok (.aload_n 0, 1) := by decide +kernel
theorem d_Model_seek_128 : decode b_Model_seek 128 = .ok (.getfield 26, 3) := by decide +kernel
theorem d_Model_seek_131 : decode b_Model_seek 131 = .ok (.aload_n 0, 1) := by decide +kernel
theorem d_Model_seek_132 : decode b_Model_seek 132 = .ok (.getfield 13, 3) := by decide +kernel
theorem d_Model_seek_135 : decode b_Model_seek 135 = .ok (.iload 4, 2) := by decide +kernel
theorem d_Model_seek_137 : decode b_Model_seek 137 = .ok (.iaload, 1) := by decide +kernel
theorem d_Model_seek_138 : decode b_Model_seek 138 = .ok (.iload 5, 2) := by decide +kernel
theorem d_Model_seek_140 : decode b_Model_seek 140 = .ok (.iadd, 1) := by decide +kernel
theorem d_Model_seek_141 : decode b_Model_seek 141 = .ok (.baload, 1) := by decide +kernel
theorem d_Model_seek_142 : decode b_Model_seek 142 = .ok (.bastore, 1) := by decide +kernel
theorem d_Model_seek_143 : decode b_Model_seek 143 = .ok (.iinc 5 1, 3) := by decide +kernel
theorem d_Model_seek_146 : decode b_Model_seek 146 = .ok (.goto (-34), 3) := by decide +kernel
theorem d_Model_seek_149 : decode b_Model_seek 149 = .ok (.iconst 0, 1) := by decide +kernel
theorem d_Model_seek_150 : decode b_Model_seek 150 = .ok (.istore 5, 2) := by decide +kernel
theorem d_Model_seek_152 : decode b_Model_seek 152 = .ok (.iload 5, 2) := by decide +kernel
theorem d_Model_seek_154 : decode b_Model_seek 154 = .ok (.aload_n 0, 1) := by decide +kernel
theorem d_Model_seek_155 : decode b_Model_seek 155 = .ok (.getfield 138, 3) := by decide +kernel
theorem d_Model_seek_158 : decode b_Model_seek 158 = .ok (.if_icmp .ge 36, 3) := by decide +kernel
theorem d_Model_seek_161 : decode b_Model_seek 161 = .ok (.aload_n 0, 1) := by decide +kernel
theorem d_Model_seek_162 : decode b_Model_seek 162 = .ok (.getfield 49, 3) := by decide +kernel
theorem d_Model_seek_165 : decode b_Model_seek 165 = .ok (.iload 5, 2) := by decide +kernel
theorem d_Model_seek_167 : decode b_Model_seek 167 = .ok (.aload_n 0, 1) := by decide +kernel
theorem d_Model_seek_168 : decode b_Model_seek 168 = .ok (.getfield 26, 3) := by decide +kernel
theorem d_Model_seek_171 : decode b_Model_seek 171 = .ok (.aload_n 0, 1) := by decide +kernel
theorem d_Model_seek_172 : decode b_Model_seek 172 = .ok (.getfield 13, 3) := by decide +kernel
theorem d_Model_seek_175 : decode b_Model_seek 175 = .ok (.iload 4, 2) := by decide +kernel
theorem d_Model_seek_177 : decode b_Model_seek 177 = .ok (.iaload, 1) := by decide +kernel
theorem d_Model_seek_178 : decode b_Model_seek 178 = .ok (.aload_n 0, 1) := by decide +kernel
theorem d_Model_seek_179 : decode b_Model_seek 179 = .ok (.getfield 135, 3) := by decide +kernel
theorem d_Model_seek_182 : decode b_Model_seek 182 = .ok (.iadd, 1) := by decide +kernel
theorem d_Model_seek_183 : decode b_Model_seek 183 = .ok (.iload 5, 2) := by decide +kernel
theorem d_Model_seek_185 : decode b_Model_seek 185 = .ok (.iadd, 1) := by decide +kernel
theorem d_Model_seek_186 : decode b_Model_seek 186 = .ok (.baload, 1) := by decide +kernel
theorem d_Model_seek_187 : decode b_Model_seek 187 = .ok (.bastore, 1) := by decide +kernel
theorem d_Model_seek_188 : decode b_Model_seek 188 = .ok (.iinc 5 1, 3) := by decide +kernel
theorem d_Model_seek_191 : decode b_Model_seek 191 = .ok (.goto (-39), 3) := by decide +kernel
theorem d_Model_seek_194 : decode b_Model_seek 194 = .ok (.iconst 1, 1) := by decide +kernel
theorem d_Model_seek_195 : decode b_Model_seek 195 = .ok (.ireturn, 1) := by decide +kernel
theorem d_Model_take_0 : decode b_Model_take 0 = .ok (.aload_n 0, 1) := by decide +kernel
theorem d_Model_take_1 : decode b_Model_take 1 = .ok (.aload_n 0, 1) := by decide +kernel
theorem d_Model_take_2 : decode b_Model_take 2 = .ok (.getfield 132, 3) := by decide +kernel
theorem d_Model_take_5 : decode b_Model_take 5 = .ok (.ifCond .eq 7, 3) := by decide +kernel
theorem d_Model_take_8 : decode b_Model_take 8 = .ok (.iconst 0, 1) := by decide +kernel
theorem d_Model_take_9 : decode b_Model_take 9 = .ok (.goto 4, 3) := by decide +kernel
theorem d_Model_take_12 : decode b_Model_take 12 = .ok (.iconst 1, 1) := by decide +kernel
theorem d_Model_take_13 : decode b_Model_take 13 = .ok (.putfield 56, 3) := by decide +kernel
theorem d_Model_take_16 : decode b_Model_take 16 = .ok (.aload_n 0, 1) := by decide +kernel
theorem d_Model_take_17 : decode b_Model_take 17 = .ok (.getfield 56, 3) := by decide +kernel
theorem d_Model_take_20 : decode b_Model_take 20 = .ok (.ifCond .le 5, 3) := by decide +kernel
theorem d_Model_take_23 : decode b_Model_take 23 = .ok (.iconst 0, 1) := by decide +kernel
theorem d_Model_take_24 : decode b_Model_take 24 = .ok (.ireturn, 1) := by decide +kernel
theorem d_Model_take_25 : decode b_Model_take 25 = .ok (.aload_n 0, 1) := by decide +kernel
theorem d_Model_take_26 : decode b_Model_take 26 = .ok (.aload_n 0, 1) := by decide +kernel
theorem d_Model_take_27 : decode b_Model_take 27 = .ok (.getfield 135, 3) := by decide +kernel
theorem d_Model_take_30 : decode b_Model_take 30 = .ok (.putfield 59, 3) := by decide +kernel
theorem d_Model_take_33 : decode b_Model_take 33 = .ok (.iconst 0, 1) := by decide +kernel
theorem d_Model_take_34 : decode b_Model_take 34 = .ok (.istore_n 1, 1) := by decide +kernel
theorem d_Model_take_35 : decode b_Model_take 35 = .ok (.iload_n 1, 1) := by decide +kernel
theorem d_Model_take_36 : decode b_Model_take 36 = .ok (.aload_n 0, 1) := by decide +kernel
theorem d_Model_take_37 : decode b_Model_take 37 = .ok (.getfield 59, 3) := by decide +kernel
theorem d_Model_take_40 : decode b_Model_take 40 = .ok (.if_icmp .ge 21, 3) := by decide +kernel
theorem d_Model_take_43 : decode b_Model_take 43 = .ok (.aload_n 0, 1) := by decide +kernel
theorem d_Model_take_44 : decode b_Model_take 44 = .ok (.getfield 40, 3) := by decide +kernel
theorem d_Model_take_47 : decode b_Model_take 47 = .ok (.iload_n 1, 1) := by decide +kernel
theorem d_Model_take_48 : decode b_Model_take 48 = .ok (.aload_n 0, 1) := by decide +kernel
theorem d_Model_take_49 : decode b_Model_take 49 = .ok (.getfield 46, 3) := by decide +kernel
theorem d_Model_take_52 : decode b_Model_take 52 = .ok (.iload_n 1, 1) := by decide +kernel
theorem d_Model_take_53 : decode b_Model_take 53 = .ok (.baload, 1) := by decide +kernel
theorem d_Model_take_54 : decode b_Model_take 54 = .ok (.bastore, 1) := by decide +kernel
theorem d_Model_take_55 : decode b_Model_take 55 = .ok (.iinc 1 1, 3) := by decide +kernel
theorem d_Model_take_58 : decode b_Model_take 58 = .ok (.goto (-23), 3) := by decide +kernel
theorem d_Model_take_61 : decode b_Model_take 61 = .ok (.aload_n 0, 1) := by decide +kernel
theorem d_Model_take_62 : decode b_Model_take 62 = .ok (.getfield 59, 3) := by decide +kernel
theorem d_Model_take_65 : decode b_Model_take 65 = .ok (.ireturn, 1) := by decide +kernel
theorem d_Model_found_0 : decode b_Model_found 0 = .ok (.aload_n 0, 1) := by decide +kernel
theorem d_Model_found_1 : decode b_Model_found 1 = .ok (.iload_n 1, 1) := by decide +kernel
theorem d_Model_found_2 : decode b_Model_found 2 = .ok (.ifCond .lt 8, 3) := by decide +kernel
theorem d_Model_found_5 : decode b_Model_found 5 = .ok (.iload_n 1, 1) := by decide +kernel
theorem d_Model_found_6 : decode b_Model_found 6 = .ok (.iconst 1, 1) := by decide +kernel
theorem d_Model_found_7 : decode b_Model_found 7 = .ok (.if_icmp .le 7, 3) := by decide +kernel
theorem d_Model_found_10 : decode b_Model_found 10 = .ok (.iconst 1, 1) := by decide +kernel
theorem d_Model_found_11 : decode b_Model_found 11 = .ok (.goto 15, 3) := by decide +kernel
theorem d_Model_found_14 : decode b_Model_found 14 = .ok (.aload_n 0, 1) := by decide +kernel
theorem d_Model_found_15 : decode b_Model_found 15 = .ok (.getfield 132, 3) := by decide +kernel
theorem d_Model_found_18 : decode b_Model_found 18 = .ok (.ifCond .eq 7, 3) := by decide +kernel
theorem d_Model_found_21 : decode b_Model_found 21 = .ok (.iconst 0, 1) := by decide +kernel
theorem d_Model_found_22 : decode b_Model_found 22 = .ok (.goto 4, 3) := by decide +kernel
theorem d_Model_found_25 : decode b_Model_found 25 = .ok (.iconst 2, 1) := by decide +kernel
theorem d_Model_found_26 : decode b_Model_found 26 = .ok (.putfield 56, 3) := by decide +kernel
theorem d_Model_found_29 : decode b_Model_found 29 = .ok (.aload_n 0, 1) := by decide +kernel
theorem d_Model_found_30 : decode b_Model_found 30 = .ok (.getfield 56, 3) := by decide +kernel
theorem d_Model_found_33 : decode b_Model_found 33 = .ok (.ifCond .gt 7, 3) := by decide +kernel
theorem d_Model_found_36 : decode b_Model_found 36 = .ok (.iload_n 2, 1) := by decide +kernel
theorem d_Model_found_37 : decode b_Model_found 37 = .ok (.ifCond .ge 5, 3) := by decide +kernel
theorem d_Model_found_40 : decode b_Model_found 40 = .ok (.lconst 0, 1) := by decide +kernel
theorem d_Model_found_41 : decode b_Model_found 41 = .ok (.lreturn, 1) := by decide +kernel
theorem d_Model_found_42 : decode b_Model_found 42 = .ok (.lconst 0, 1) := by decide +kernel
theorem d_Model_found_43 : decode b_Model_found 43 = .ok (.lstore_n 3, 1) := by decide +kernel
theorem d_Model_found_44 : decode b_Model_found 44 = .ok (.iconst 0, 1) := by decide +kernel
theorem d_Model_found_45 : decode b_Model_found 45 = .ok (.istore 5, 2) := by decide +kernel
theorem d_Model_found_47 : decode b_Model_found 47 = .ok (.iload 5, 2) := by decide +kernel
theorem d_Model_found_49 : decode b_Model_found 49 = .ok (.bipush 8, 2) := by decide +kernel
theorem d_Model_found_51 : decode b_Model_found 51 = .ok (.if_icmp .ge 76, 3) := by decide +kernel
theorem d_Model_found_54 : decode b_Model_found 54 = .ok (.iload_n 2, 1) := by decide +kernel
theorem d_Model_found_55 : decode b_Model_found 55 = .ok (.sipush 8448, 3) := by decide +kernel
theorem d_Model_found_58 : decode b_Model_found 58 = .ok (.if_icmp .gt 25, 3) := by decide +kernel
theorem d_Model_found_61 : decode b_Model_found 61 = .ok (.iload_n 2, 1) := by decide +kernel
theorem d_Model_found_62 : decode b_Model_found 62 = .ok (.iload 5, 2) := by decide +kernel
theorem d_Model_found_64 : decode b_Model_found 64 = .ok (.iadd, 1) := by decide +kernel
theorem d_Model_found_65 : decode b_Model_found 65 = .ok (.iload_n 1, 1) := by decide +kernel
theorem d_Model_found_66 : decode b_Model_found 66 = .ok (.ifCond .ne 10, 3) := by decide +kernel
theorem d_Model_found_69 : decode b_Model_found 69 = .ok (.aload_n 0, 1) := by decide +kernel
theorem d_Model_found_70 : decode b_Model_found 70 = .ok (.getfield 135, 3) := by decide +kernel
theorem d_Model_found_73 : decode b_Model_found 73 = .ok (.goto 7, 3) := by decide +kernel
theorem d_Model_found_76 : decode b_Model_found 76 = .ok (.aload_n 0, 1) := by decide +kernel
theorem d_Model_found_77 : decode b_Model_found 77 = .ok (.getfield 138, 3) := by decide +kernel
theorem d_Model_found_80 : decode b_Model_found 80 = .ok (.if_icmp .lt 5, 3) := by decide +kernel
theorem d_Model_found_83 : decode b_Model_found 83 = .ok (.lload_n 3, 1) := by decide +kernel
theorem d_Model_found_84 : decode b_Model_found 84 = .ok (.lreturn, 1) := by decide +kernel
theorem d_Model_found_85 : decode b_Model_found 85 = .ok (.lload_n 3, 1) := by decide +kernel
theorem d_Model_found_86 : decode b_Model_found 86 = .ok (.bipush 8, 2) := by decide +kernel
theorem d_Model_found_88 : decode b_Model_found 88 = .ok (.lshl, 1) := by decide +kernel
theorem d_Model_found_89 : decode b_Model_found 89 = .ok (.iload_n 1, 1) := by decide +kernel
theorem d_Model_found_90 : decode b_Model_found 90 = .ok (.ifCond .ne 15, 3) := by decide +kernel
theorem d_Model_found_93 : decode b_Model_found 93 = .ok (.aload_n 0, 1) := by decide +kernel
theorem d_Model_found_94 : decode b_Model_found 94 = .ok (.getfield 46, 3) := by decide +kernel
theorem d_Model_found_97 : decode b_Model_found 97 = .ok (.iload_n 2, 1) := by decide +kernel
theorem d_Model_found_98 : decode b_Model_found 98 = .ok (.iload 5, 2) := by decide +kernel
theorem d_Model_found_100 : decode b_Model_found 100 = .ok (.iadd, 1) := by decide +kernel
theorem d_Model_found_101 : decode b_Model_found 101 = .ok (.baload, 1) := by decide +kernel
theorem d_Model_found_102 : decode b_Model_found 102 = .ok (.goto 12, 3) := by decide +kernel
theorem d_Model_found_105 : decode b_Model_found 105 = .ok (.aload_n 0, 1) := by decide +kernel
theorem d_Model_found_106 : decode b_Model_found 106 = .ok (.getfield 49, 3) := by decide +kernel
theorem d_Model_found_109 : decode b_Model_found 109 = .ok (.iload_n 2, 1) := by decide +kernel
theorem d_Model_found_110 : decode b_Model_found 110 = .ok (.iload 5, 2) := by decide +kernel
theorem d_Model_found_112 : decode b_Model_found 112 = .ok (.iadd, 1) := by decide +kernel
theorem d_Model_found_113 : decode b_Model_found 113 = .ok (.baload, 1) := by decide +kernel
theorem d_Model_found_114 : decode b_Model_found 114 = .ok (.sipush 255, 3) := by decide +kernel
theorem d_Model_found_117 : decode b_Model_found 117 = .ok (.iand, 1) := by decide +kernel
theorem d_Model_found_118 : decode b_Model_found 118 = .ok (.i2l, 1) := by decide +kernel
theorem d_Model_found_119 : decode b_Model_found 119 = .ok (.lor, 1) := by decide +kernel
theorem d_Model_found_120 : decode b_Model_found 120 = .ok (.lstore_n 3, 1) := by decide +kernel
theorem d_Model_found_121 : decode b_Model_found 121 = .ok (.iinc 5 1, 3) := by decide +kernel
theorem d_Model_found_124 : decode b_Model_found 124 = .ok (.goto (-77), 3) := by decide +kernel
theorem d_Model_found_127 : decode b_Model_found 127 = .ok (.lload_n 3, 1) := by decide +kernel
theorem d_Model_found_128 : decode b_Model_found 128 = .ok (.lreturn, 1) := by decide +kernel
theorem d_Model_isShut_0 : decode b_Model_isShut 0 = .ok (.aload_n 0, 1) := by decide +kernel
theorem d_Model_isShut_1 : decode b_Model_isShut 1 = .ok (.iload_n 1, 1) := by decide +kernel
theorem d_Model_isShut_2 : decode b_Model_isShut 2 = .ok (.ifCond .eq 7, 3) := by decide +kernel
theorem d_Model_isShut_5 : decode b_Model_isShut 5 = .ok (.iconst 1, 1) := by decide +kernel
theorem d_Model_isShut_6 : decode b_Model_isShut 6 = .ok (.goto 4, 3) := by decide +kernel
theorem d_Model_isShut_9 : decode b_Model_isShut 9 = .ok (.iconst 0, 1) := by decide +kernel
theorem d_Model_isShut_10 : decode b_Model_isShut 10 = .ok (.putfield 56, 3) := by decide +kernel
theorem d_Model_isShut_13 : decode b_Model_isShut 13 = .ok (.iload_n 1, 1) := by decide +kernel
theorem d_Model_isShut_14 : decode b_Model_isShut 14 = .ok (.ireturn, 1) := by decide +kernel
theorem d_Model_begin_0 : decode b_Model_begin 0 = .ok (.aload_n 0, 1) := by decide +kernel
theorem d_Model_begin_1 : decode b_Model_begin 1 = .ok (.aload_n 0, 1) := by decide +kernel
theorem d_Model_begin_2 : decode b_Model_begin 2 = .ok (.getfield 65, 3) := by decide +kernel
theorem d_Model_begin_5 : decode b_Model_begin 5 = .ok (.ifCond .ne 10, 3) := by decide +kernel
theorem d_Model_begin_8 : decode b_Model_begin 8 = .ok (.aload_n 0, 1) := by decide +kernel
theorem d_Model_begin_9 : decode b_Model_begin 9 = .ok (.getfield 101, 3) := by decide +kernel
theorem d_Model_begin_12 : decode b_Model_begin 12 = .ok (.ifCond .eq 7, 3) := by decide +kernel
theorem d_Model_begin_15 : decode b_Model_begin 15 = .ok (.iconst 1, 1) := by decide +kernel
theorem d_Model_begin_16 : decode b_Model_begin 16 = .ok (.goto 4, 3) := by decide +kernel
theorem d_Model_begin_19 : decode b_Model_begin 19 = .ok (.iconst 0, 1) := by decide +kernel
theorem d_Model_begin_20 : decode b_Model_begin 20 = .ok (.invokevirtual 141, 3) := by decide +kernel
theorem d_Model_begin_23 : decode b_Model_begin 23 = .ok (.ifCond .eq 4, 3) := by decide +kernel
theorem d_Model_begin_26 : decode b_Model_begin 26 = .ok (.return_, 1) := by decide +kernel
theorem d_Model_begin_27 : decode b_Model_begin 27 = .ok (.aload_n 0, 1) := by decide +kernel
theorem d_Model_begin_28 : decode b_Model_begin 28 = .ok (.iconst 1, 1) := by decide +kernel
theorem d_Model_begin_29 : decode b_Model_begin 29 = .ok (.putfield 101, 3) := by decide +kernel
theorem d_Model_begin_32 : decode b_Model_begin 32 = .ok (.aload_n 0, 1) := by decide +kernel
theorem d_Model_begin_33 : decode b_Model_begin 33 = .ok (.iconst 0, 1) := by decide +kernel
theorem d_Model_begin_34 : decode b_Model_begin 34 = .ok (.putfield 88, 3) := by decide +kernel
theorem d_Model_begin_37 : decode b_Model_begin 37 = .ok (.return_, 1) := by decide +kernel
theorem d_Model_end_0 : decode b_Model_end 0 = .ok (.aload_n 0, 1) := by decide +kernel
theorem d_Model_end_1 : decode b_Model_end 1 = .ok (.iconst 0, 1) := by decide +kernel
theorem d_Model_end_2 : decode b_Model_end 2 = .ok (.putfield 101, 3) := by decide +kernel
theorem d_Model_end_5 : decode b_Model_end 5 = .ok (.aload_n 0, 1) := by decide +kernel
theorem d_Model_end_6 : decode b_Model_end 6 = .ok (.iconst 0, 1) := by decide +kernel
theorem d_Model_end_7 : decode b_Model_end 7 = .ok (.putfield 88, 3) := by decide +kernel
theorem d_Model_end_10 : decode b_Model_end 10 = .ok (.return_, 1) := by decide +kernel
theorem d_Model_fall_0 : decode b_Model_fall 0 = .ok (.aload_n 0, 1) := by decide +kernel
theorem d_Model_fall_1 : decode b_Model_fall 1 = .ok (.invokevirtual 145, 3) := by decide +kernel
theorem d_Model_fall_4 : decode b_Model_fall 4 = .ok (.aload_n 0, 1) := by decide +kernel
theorem d_Model_fall_5 : decode b_Model_fall 5 = .ok (.iconst 1, 1) := by decide +kernel
theorem d_Model_fall_6 : decode b_Model_fall 6 = .ok (.iconst 0, 1) := by decide +kernel
theorem d_Model_fall_7 : decode b_Model_fall 7 = .ok (.invokevirtual 148, 3) := by decide +kernel
theorem d_Model_fall_10 : decode b_Model_fall 10 = .ok (.aload_n 0, 1) := by decide +kernel
theorem d_Model_fall_11 : decode b_Model_fall 11 = .ok (.iconst 0, 1) := by decide +kernel
theorem d_Model_fall_12 : decode b_Model_fall 12 = .ok (.putfield 59, 3) := by decide +kernel
theorem d_Model_fall_15 : decode b_Model_fall 15 = .ok (.aload_n 0, 1) := by decide +kernel
theorem d_Model_fall_16 : decode b_Model_fall 16 = .ok (.iconst 0, 1) := by decide +kernel
theorem d_Model_fall_17 : decode b_Model_fall 17 = .ok (.putfield 62, 3) := by decide +kernel
theorem d_Model_fall_20 : decode b_Model_fall 20 = .ok (.aload_n 0, 1) := by decide +kernel
theorem d_Model_fall_21 : decode b_Model_fall 21 = .ok (.iconst 0, 1) := by decide +kernel
theorem d_Model_fall_22 : decode b_Model_fall 22 = .ok (.putfield 132, 3) := by decide +kernel
theorem d_Model_fall_25 : decode b_Model_fall 25 = .ok (.aload_n 0, 1) := by decide +kernel
theorem d_Model_fall_26 : decode b_Model_fall 26 = .ok (.iconst 4, 1) := by decide +kernel
theorem d_Model_fall_27 : decode b_Model_fall 27 = .ok (.putfield 52, 3) := by decide +kernel
theorem d_Model_fall_30 : decode b_Model_fall 30 = .ok (.return_, 1) := by decide +kernel
theorem d_Model_commit_0 : decode b_Model_commit 0 = .ok (.aload_n 0, 1) := by decide +kernel
theorem d_Model_commit_1 : decode b_Model_commit 1 = .ok (.aload_n 0, 1) := by decide +kernel
theorem d_Model_commit_2 : decode b_Model_commit 2 = .ok (.getfield 65, 3) := by decide +kernel
theorem d_Model_commit_5 : decode b_Model_commit 5 = .ok (.ifCond .ne 10, 3) := by decide +kernel
theorem d_Model_commit_8 : decode b_Model_commit 8 = .ok (.aload_n 0, 1) := by decide +kernel
theorem d_Model_commit_9 : decode b_Model_commit 9 = .ok (.getfield 101, 3) := by decide +kernel
theorem d_Model_commit_12 : decode b_Model_commit 12 = .ok (.ifCond .ne 7, 3) := by decide +kernel
theorem d_Model_commit_15 : decode b_Model_commit 15 = .ok (.iconst 1, 1) := by decide +kernel
theorem d_Model_commit_16 : decode b_Model_commit 16 = .ok (.goto 4, 3) := by decide +kernel
theorem d_Model_commit_19 : decode b_Model_commit 19 = .ok (.iconst 0, 1) := by decide +kernel
theorem d_Model_commit_20 : decode b_Model_commit 20 = .ok (.invokevirtual 141, 3) := by decide +kernel
theorem d_Model_commit_23 : decode b_Model_commit 23 = .ok (.ifCond .eq 4, 3) := by decide +kernel
theorem d_Model_commit_26 : decode b_Model_commit 26 = .ok (.return_, 1) := by decide +kernel
theorem d_Model_commit_27 : decode b_Model_commit 27 = .ok (.aload_n 0, 1) := by decide +kernel
theorem d_Model_commit_28 : decode b_Model_commit 28 = .ok (.getfield 52, 3) := by decide +kernel
theorem d_Model_commit_31 : decode b_Model_commit 31 = .ok (.iconst 3, 1) := by decide +kernel
theorem d_Model_commit_32 : decode b_Model_commit 32 = .ok (.if_icmp .ge 7, 3) := by decide +kernel
theorem d_Model_commit_35 : decode b_Model_commit 35 = .ok (.iconst 1, 1) := by decide +kernel
theorem d_Model_commit_36 : decode b_Model_commit 36 = .ok (.goto 4, 3) := by decide +kernel
theorem d_Model_commit_39 : decode b_Model_commit 39 = .ok (.iconst 0, 1) := by decide +kernel
theorem d_Model_commit_40 : decode b_Model_commit 40 = .ok (.istore_n 1, 1) := by decide +kernel
theorem d_Model_commit_41 : decode b_Model_commit 41 = .ok (.iload_n 1, 1) := by decide +kernel
theorem d_Model_commit_42 : decode b_Model_commit 42 = .ok (.ifCond .eq 18, 3) := by decide +kernel
theorem d_Model_commit_45 : decode b_Model_commit 45 = .ok (.aload_n 0, 1) := by decide +kernel
theorem d_Model_commit_46 : decode b_Model_commit 46 = .ok (.getfield 52, 3) := by decide +kernel
theorem d_Model_commit_49 : decode b_Model_commit 49 = .ok (.iconst 2, 1) := by decide +kernel
theorem d_Model_commit_50 : decode b_Model_commit 50 = .ok (.if_icmp .ne 16, 3) := by decide +kernel
theorem d_Model_commit_53 : decode b_Model_commit 53 = .ok (.aload_n 0, 1) := by decide +kernel
theorem d_Model_commit_54 : decode b_Model_commit 54 = .ok (.getfield 152, 3) := by decide +kernel
theorem d_Model_commit_57 : decode b_Model_commit 57 = .ok (.ifCond .le 9, 3) := by decide +kernel
theorem d_Model_commit_60 : decode b_Model_commit 60 = .ok (.aload_n 0, 1) := by decide +kernel
theorem d_Model_commit_61 : decode b_Model_commit 61 = .ok (.iconst 0, 1) := by decide +kernel
theorem d_Model_commit_62 : decode b_Model_commit 62 = .ok (.iconst 1, 1) := by decide +kernel
theorem d_Model_commit_63 : decode b_Model_commit 63 = .ok (.invokevirtual 148, 3) := by decide +kernel
theorem d_Model_commit_66 : decode b_Model_commit 66 = .ok (.aload_n 0, 1) := by decide +kernel
theorem d_Model_commit_67 : decode b_Model_commit 67 = .ok (.invokevirtual 145, 3) := by decide +kernel
theorem d_Model_commit_70 : decode b_Model_commit 70 = .ok (.iload_n 1, 1) := by decide +kernel
theorem d_Model_commit_71 : decode b_Model_commit 71 = .ok (.ifCond .ne 4, 3) := by decide +kernel
theorem d_Model_commit_74 : decode b_Model_commit 74 = .ok (.return_, 1) := by decide +kernel
theorem d_Model_commit_75 : decode b_Model_commit 75 = .ok (.aload_n 0, 1) := by decide +kernel
theorem d_Model_commit_76 : decode b_Model_commit 76 = .ok (.invokevirtual 155, 3) := by decide +kernel
theorem d_Model_commit_79 : decode b_Model_commit 79 = .ok (.aload_n 0, 1) := by decide +kernel
theorem d_Model_commit_80 : decode b_Model_commit 80 = .ok (.iconst 1, 1) := by decide +kernel
theorem d_Model_commit_81 : decode b_Model_commit 81 = .ok (.putfield 65, 3) := by decide +kernel
theorem d_Model_commit_84 : decode b_Model_commit 84 = .ok (.aload_n 0, 1) := by decide +kernel
theorem d_Model_commit_85 : decode b_Model_commit 85 = .ok (.iconst 2, 1) := by decide +kernel
theorem d_Model_commit_86 : decode b_Model_commit 86 = .ok (.putfield 56, 3) := by decide +kernel
theorem d_Model_commit_89 : decode b_Model_commit 89 = .ok (.return_, 1) := by decide +kernel
theorem d_Model_rollback_0 : decode b_Model_rollback 0 = .ok (.aload_n 0, 1) := by decide +kernel
theorem d_Model_rollback_1 : decode b_Model_rollback 1 = .ok (.aload_n 0, 1) := by decide +kernel
theorem d_Model_rollback_2 : decode b_Model_rollback 2 = .ok (.getfield 65, 3) := by decide +kernel
theorem d_Model_rollback_5 : decode b_Model_rollback 5 = .ok (.ifCond .ne 10, 3) := by decide +kernel
theorem d_Model_rollback_8 : decode b_Model_rollback 8 = .ok (.aload_n 0, 1) := by decide +kernel
theorem d_Model_rollback_9 : decode b_Model_rollback 9 = .ok (.getfield 101, 3) := by decide +kernel
theorem d_Model_rollback_12 : decode b_Model_rollback 12 = .ok (.ifCond .ne 7, 3) := by decide +kernel
theorem d_Model_rollback_15 : decode b_Model_rollback 15 = .ok (.iconst 1, 1) := by decide +kernel
theorem d_Model_rollback_16 : decode b_Model_rollback 16 = .ok (.goto 4, 3) := by decide +kernel
theorem d_Model_rollback_19 : decode b_Model_rollback 19 = .ok (.iconst 0, 1) := by decide +kernel
theorem d_Model_rollback_20 : decode b_Model_rollback 20 = .ok (.invokevirtual 141, 3) := by decide +kernel
theorem d_Model_rollback_23 : decode b_Model_rollback 23 = .ok (.ifCond .eq 4, 3) := by decide +kernel
theorem d_Model_rollback_26 : decode b_Model_rollback 26 = .ok (.return_, 1) := by decide +kernel
theorem d_Model_rollback_27 : decode b_Model_rollback 27 = .ok (.aload_n 0, 1) := by decide +kernel
theorem d_Model_rollback_28 : decode b_Model_rollback 28 = .ok (.iconst 1, 1) := by decide +kernel
theorem d_Model_rollback_29 : decode b_Model_rollback 29 = .ok (.iconst 0, 1) := by decide +kernel
theorem d_Model_rollback_30 : decode b_Model_rollback 30 = .ok (.invokevirtual 148, 3) := by decide +kernel
theorem d_Model_rollback_33 : decode b_Model_rollback 33 = .ok (.aload_n 0, 1) := by decide +kernel
theorem d_Model_rollback_34 : decode b_Model_rollback 34 = .ok (.invokevirtual 145, 3) := by decide +kernel
theorem d_Model_rollback_37 : decode b_Model_rollback 37 = .ok (.return_, 1) := by decide +kernel
theorem d_Model_mark_0 : decode b_Model_mark 0 = .ok (.aload_n 0, 1) := by decide +kernel
theorem d_Model_mark_1 : decode b_Model_mark 1 = .ok (.aload_n 0, 1) := by decide +kernel
theorem d_Model_mark_2 : decode b_Model_mark 2 = .ok (.getfield 65, 3) := by decide +kernel
theorem d_Model_mark_5 : decode b_Model_mark 5 = .ok (.ifCond .ne 18, 3) := by decide +kernel
theorem d_Model_mark_8 : decode b_Model_mark 8 = .ok (.aload_n 0, 1) := by decide +kernel
theorem d_Model_mark_9 : decode b_Model_mark 9 = .ok (.getfield 101, 3) := by decide +kernel
theorem d_Model_mark_12 : decode b_Model_mark 12 = .ok (.ifCond .eq 11, 3) := by decide +kernel
theorem d_Model_mark_15 : decode b_Model_mark 15 = .ok (.aload_n 0, 1) := by decide +kernel
theorem d_Model_mark_16 : decode b_Model_mark 16 = .ok (.getfield 88, 3) := by decide +kernel
theorem d_Model_mark_19 : decode b_Model_mark 19 = .ok (.iconst 5, 1) := by decide +kernel
theorem d_Model_mark_20 : decode b_Model_mark 20 = .ok (.if_icmp .ne 7, 3) := by decide +kernel
theorem d_Model_mark_23 : decode b_Model_mark 23 = .ok (.iconst 1, 1) := by decide +kernel
theorem d_Model_mark_24 : decode b_Model_mark 24 = .ok (.goto 4, 3) := by decide +kernel
theorem d_Model_mark_27 : decode b_Model_mark 27 = .ok (.iconst 0, 1) := by decide +kernel
theorem d_Model_mark_28 : decode b_Model_mark 28 = .ok (.invokevirtual 141, 3) := by decide +kernel
theorem d_Model_mark_31 : decode b_Model_mark 31 = .ok (.ifCond .eq 5, 3) := by decide +kernel
theorem d_Model_mark_34 : decode b_Model_mark 34 = .ok (.iconst 0, 1) := by decide +kernel
theorem d_Model_mark_35 : decode b_Model_mark 35 = .ok (.ireturn, 1) := by decide +kernel
theorem d_Model_mark_36 : decode b_Model_mark 36 = .ok (.aload_n 0, 1) := by decide +kernel
theorem d_Model_mark_37 : decode b_Model_mark 37 = .ok (.iconst 0, 1) := by decide +kernel
theorem d_Model_mark_38 : decode b_Model_mark 38 = .ok (.iconst 2, 1) := by decide +kernel
theorem d_Model_mark_39 : decode b_Model_mark 39 = .ok (.aload_n 0, 1) := by decide +kernel
theorem d_Model_mark_40 : decode b_Model_mark 40 = .ok (.getfield 88, 3) := by decide +kernel
theorem d_Model_mark_43 : decode b_Model_mark 43 = .ok (.iadd, 1) := by decide +kernel
theorem d_Model_mark_44 : decode b_Model_mark 44 = .ok (.invokevirtual 148, 3) := by decide +kernel
theorem d_Model_mark_47 : decode b_Model_mark 47 = .ok (.aload_n 0, 1) := by decide +kernel
theorem d_Model_mark_48 : decode b_Model_mark 48 = .ok (.dup, 1) := by decide +kernel
theorem d_Model_mark_49 : decode b_Model_mark 49 = .ok (.getfield 88, 3) := by decide +kernel
theorem d_Model_mark_52 : decode b_Model_mark 52 = .ok (.iconst 1, 1) := by decide +kernel
theorem d_Model_mark_53 : decode b_Model_mark 53 = .ok (.iadd, 1) := by decide +kernel
theorem d_Model_mark_54 : decode b_Model_mark 54 = .ok (.putfield 88, 3) := by decide +kernel
theorem d_Model_mark_57 : decode b_Model_mark 57 = .ok (.aload_n 0, 1) := by decide +kernel
theorem d_Model_mark_58 : decode b_Model_mark 58 = .ok (.getfield 88, 3) := by decide +kernel
theorem d_Model_mark_61 : decode b_Model_mark 61 = .ok (.ireturn, 1) := by decide +kernel
theorem d_Model_isMark_0 : decode b_Model_isMark 0 = .ok (.aload_n 0, 1) := by decide +kernel
theorem d_Model_isMark_1 : decode b_Model_isMark 1 = .ok (.aload_n 0, 1) := by decide +kernel
theorem d_Model_isMark_2 : decode b_Model_isMark 2 = .ok (.getfield 65, 3) := by decide +kernel
theorem d_Model_isMark_5 : decode b_Model_isMark 5 = .ok (.ifCond .ne 10, 3) := by decide +kernel
theorem d_Model_isMark_8 : decode b_Model_isMark 8 = .ok (.aload_n 0, 1) := by decide +kernel
theorem d_Model_isMark_9 : decode b_Model_isMark 9 = .ok (.getfield 101, 3) := by decide +kernel
theorem d_Model_isMark_12 : decode b_Model_isMark 12 = .ok (.ifCond .ne 7, 3) := by decide +kernel
theorem d_Model_isMark_15 : decode b_Model_isMark 15 = .ok (.iconst 1, 1) := by decide +kernel
theorem d_Model_isMark_16 : decode b_Model_isMark 16 = .ok (.goto 21, 3) := by decide +kernel
theorem d_Model_isMark_19 : decode b_Model_isMark 19 = .ok (.iload_n 1, 1) := by decide +kernel
theorem d_Model_isMark_20 : decode b_Model_isMark 20 = .ok (.iconst 1, 1) := by decide +kernel
theorem d_Model_isMark_21 : decode b_Model_isMark 21 = .ok (.if_icmp .lt 11, 3) := by decide +kernel
theorem d_Model_isMark_24 : decode b_Model_isMark 24 = .ok (.iload_n 1, 1) := by decide +kernel
theorem d_Model_isMark_25 : decode b_Model_isMark 25 = .ok (.aload_n 0, 1) := by decide +kernel
theorem d_Model_isMark_26 : decode b_Model_isMark 26 = .ok (.getfield 88, 3) := by decide +kernel
theorem d_Model_isMark_29 : decode b_Model_isMark 29 = .ok (.if_icmp .le 7, 3) := by decide +kernel
theorem d_Model_isMark_32 : decode b_Model_isMark 32 = .ok (.iconst 2, 1) := by decide +kernel
theorem d_Model_isMark_33 : decode b_Model_isMark 33 = .ok (.goto 4, 3) := by decide +kernel
theorem d_Model_isMark_36 : decode b_Model_isMark 36 = .ok (.iconst 0, 1) := by decide +kernel
theorem d_Model_isMark_37 : decode b_Model_isMark 37 = .ok (.putfield 56, 3) := by decide +kernel
theorem d_Model_isMark_40 : decode b_Model_isMark 40 = .ok (.aload_n 0, 1) := by decide +kernel
theorem d_Model_isMark_41 : decode b_Model_isMark 41 = .ok (.getfield 56, 3) := by decide +kernel
theorem d_Model_isMark_44 : decode b_Model_isMark 44 = .ok (.ifCond .ne 7, 3) := by decide +kernel
theorem d_Model_isMark_47 : decode b_Model_isMark 47 = .ok (.iconst 1, 1) := by decide +kernel
theorem d_Model_isMark_48 : decode b_Model_isMark 48 = .ok (.goto 4, 3) := by decide +kernel
theorem d_Model_isMark_51 : decode b_Model_isMark 51 = .ok (.iconst 0, 1) := by decide +kernel
theorem d_Model_isMark_52 : decode b_Model_isMark 52 = .ok (.ireturn, 1) := by decide +kernel
theorem d_Model_back_0 : decode b_Model_back 0 = .ok (.aload_n 0, 1) := by decide +kernel
theorem d_Model_back_1 : decode b_Model_back 1 = .ok (.iload_n 1, 1) := by decide +kernel
theorem d_Model_back_2 : decode b_Model_back 2 = .ok (.invokevirtual 158, 3) := by decide +kernel
theorem d_Model_back_5 : decode b_Model_back 5 = .ok (.ifCond .ne 4, 3) := by decide +kernel
theorem d_Model_back_8 : decode b_Model_back 8 = .ok (.return_, 1) := by decide +kernel
theorem d_Model_back_9 : decode b_Model_back 9 = .ok (.aload_n 0, 1) := by decide +kernel
theorem d_Model_back_10 : decode b_Model_back 10 = .ok (.iconst 1, 1) := by decide +kernel
theorem d_Model_back_11 : decode b_Model_back 11 = .ok (.iload_n 1, 1) := by decide +kernel
theorem d_Model_back_12 : decode b_Model_back 12 = .ok (.iadd, 1) := by decide +kernel
theorem d_Model_back_13 : decode b_Model_back 13 = .ok (.iconst 0, 1) := by decide +kernel
theorem d_Model_back_14 : decode b_Model_back 14 = .ok (.invokevirtual 148, 3) := by decide +kernel
theorem d_Model_back_17 : decode b_Model_back 17 = .ok (.aload_n 0, 1) := by decide +kernel
theorem d_Model_back_18 : decode b_Model_back 18 = .ok (.iload_n 1, 1) := by decide +kernel
theorem d_Model_back_19 : decode b_Model_back 19 = .ok (.putfield 88, 3) := by decide +kernel
theorem d_Model_back_22 : decode b_Model_back 22 = .ok (.return_, 1) := by decide +kernel
theorem d_Model_keep_0 : decode b_Model_keep 0 = .ok (.aload_n 0, 1) := by decide +kernel
theorem d_Model_keep_1 : decode b_Model_keep 1 = .ok (.iload_n 1, 1) := by decide +kernel
theorem d_Model_keep_2 : decode b_Model_keep 2 = .ok (.invokevirtual 158, 3) := by decide +kernel
theorem d_Model_keep_5 : decode b_Model_keep 5 = .ok (.ifCond .eq 10, 3) := by decide +kernel
theorem d_Model_keep_8 : decode b_Model_keep 8 = .ok (.aload_n 0, 1) := by decide +kernel
theorem d_Model_keep_9 : decode b_Model_keep 9 = .ok (.iload_n 1, 1) := by decide +kernel
theorem d_Model_keep_10 : decode b_Model_keep 10 = .ok (.iconst 1, 1) := by decide +kernel
theorem d_Model_keep_11 : decode b_Model_keep 11 = .ok (.isub, 1) := by decide +kernel
theorem d_Model_keep_12 : decode b_Model_keep 12 = .ok (.putfield 88, 3) := by decide +kernel
theorem d_Model_keep_15 : decode b_Model_keep 15 = .ok (.return_, 1) := by decide +kernel
theorem d_Model_power_0 : decode b_Model_power 0 = .ok (.aload_n 0, 1) := by decide +kernel
theorem d_Model_power_1 : decode b_Model_power 1 = .ok (.iload_n 1, 1) := by decide +kernel
theorem d_Model_power_2 : decode b_Model_power 2 = .ok (.ifCond .lt 30, 3) := by decide +kernel
theorem d_Model_power_5 : decode b_Model_power 5 = .ok (.iload_n 1, 1) := by decide +kernel
theorem d_Model_power_6 : decode b_Model_power 6 = .ok (.iconst 4, 1) := by decide +kernel
theorem d_Model_power_7 : decode b_Model_power 7 = .ok (.if_icmp .gt 25, 3) := by decide +kernel
theorem d_Model_power_10 : decode b_Model_power 10 = .ok (.iload_n 2, 1) := by decide +kernel
theorem d_Model_power_11 : decode b_Model_power 11 = .ok (.ifCond .lt 21, 3) := by decide +kernel
theorem d_Model_power_14 : decode b_Model_power 14 = .ok (.iload_n 2, 1) := by decide +kernel
theorem d_Model_power_15 : decode b_Model_power 15 = .ok (.sipush 1000, 3) := by decide +kernel
theorem d_Model_power_18 : decode b_Model_power 18 = .ok (.if_icmp .gt 14, 3) := by decide +kernel
theorem d_Model_power_21 : decode b_Model_power 21 = .ok (.iload_n 3, 1) := by decide +kernel
theorem d_Model_power_22 : decode b_Model_power 22 = .ok (.ifCond .lt 10, 3) := by decide +kernel
theorem d_Model_power_25 : decode b_Model_power 25 = .ok (.iload_n 3, 1) := by decide +kernel
theorem d_Model_power_26 : decode b_Model_power 26 = .ok (.sipush 300, 3) := by decide +kernel
theorem d_Model_power_29 : decode b_Model_power 29 = .ok (.if_icmp .le 7, 3) := by decide +kernel
theorem d_Model_power_32 : decode b_Model_power 32 = .ok (.iconst 1, 1) := by decide +kernel
theorem d_Model_power_33 : decode b_Model_power 33 = .ok (.goto 4, 3) := by decide +kernel
theorem d_Model_power_36 : decode b_Model_power 36 = .ok (.iconst 0, 1) := by decide +kernel
theorem d_Model_power_37 : decode b_Model_power 37 = .ok (.putfield 56, 3) := by decide +kernel
theorem d_Model_power_40 : decode b_Model_power 40 = .ok (.aload_n 0, 1) := by decide +kernel
theorem d_Model_power_41 : decode b_Model_power 41 = .ok (.getfield 56, 3) := by decide +kernel
theorem d_Model_power_44 : decode b_Model_power 44 = .ok (.ifCond .le 4, 3) := by decide +kernel
theorem d_Model_power_47 : decode b_Model_power 47 = .ok (.return_, 1) := by decide +kernel
theorem d_Model_power_48 : decode b_Model_power 48 = .ok (.aload_n 0, 1) := by decide +kernel
theorem d_Model_power_49 : decode b_Model_power 49 = .ok (.iload_n 1, 1) := by decide +kernel
theorem d_Model_power_50 : decode b_Model_power 50 = .ok (.putfield 52, 3) := by decide +kernel
theorem d_Model_power_53 : decode b_Model_power 53 = .ok (.aload_n 0, 1) := by decide +kernel
theorem d_Model_power_54 : decode b_Model_power 54 = .ok (.iload_n 2, 1) := by decide +kernel
theorem d_Model_power_55 : decode b_Model_power 55 = .ok (.putfield 152, 3) := by decide +kernel
theorem d_Model_power_58 : decode b_Model_power 58 = .ok (.return_, 1) := by decide +kernel
theorem d_Model_count_0 : decode b_Model_count 0 = .ok (.iconst 0, 1) := by decide +kernel
theorem d_Model_count_1 : decode b_Model_count 1 = .ok (.istore_n 1, 1) := by decide +kernel
theorem d_Model_count_2 : decode b_Model_count 2 = .ok (.iconst 0, 1) := by decide +kernel
theorem d_Model_count_3 : decode b_Model_count 3 = .ok (.istore_n 2, 1) := by decide +kernel
theorem d_Model_count_4 : decode b_Model_count 4 = .ok (.iload_n 2, 1) := by decide +kernel
theorem d_Model_count_5 : decode b_Model_count 5 = .ok (.bipush 64, 2) := by decide +kernel
theorem d_Model_count_7 : decode b_Model_count 7 = .ok (.if_icmp .ge 20, 3) := by decide +kernel
theorem d_Model_count_10 : decode b_Model_count 10 = .ok (.aload_n 0, 1) := by decide +kernel
theorem d_Model_count_11 : decode b_Model_count 11 = .ok (.iload_n 2, 1) := by decide +kernel
theorem d_Model_count_12 : decode b_Model_count 12 = .ok (.invokevirtual 97, 3) := by decide +kernel
theorem d_Model_count_15 : decode b_Model_count 15 = .ok (.ifCond .eq 6, 3) := by decide +kernel
theorem d_Model_count_18 : decode b_Model_count 18 = .ok (.iinc 1 1, 3) := by decide +kernel
theorem d_Model_count_21 : decode b_Model_count 21 = .ok (.iinc 2 1, 3) := by decide +kernel
theorem d_Model_count_24 : decode b_Model_count 24 = .ok (.goto (-20), 3) := by decide +kernel
theorem d_Model_count_27 : decode b_Model_count 27 = .ok (.iload_n 1, 1) := by decide +kernel
theorem d_Model_count_28 : decode b_Model_count 28 = .ok (.ireturn, 1) := by decide +kernel
theorem d_Model_reopen_0 : decode b_Model_reopen 0 = .ok (.aload_n 0, 1) := by decide +kernel
theorem d_Model_reopen_1 : decode b_Model_reopen 1 = .ok (.getfield 52, 3) := by decide +kernel
theorem d_Model_reopen_4 : decode b_Model_reopen 4 = .ok (.iconst 3, 1) := by decide +kernel
theorem d_Model_reopen_5 : decode b_Model_reopen 5 = .ok (.if_icmp .ne 7, 3) := by decide +kernel
theorem d_Model_reopen_8 : decode b_Model_reopen 8 = .ok (.iconst 1, 1) := by decide +kernel
theorem d_Model_reopen_9 : decode b_Model_reopen 9 = .ok (.goto 4, 3) := by decide +kernel
theorem d_Model_reopen_12 : decode b_Model_reopen 12 = .ok (.iconst 0, 1) := by decide +kernel
theorem d_Model_reopen_13 : decode b_Model_reopen 13 = .ok (.istore_n 1, 1) := by decide +kernel
theorem d_Model_reopen_14 : decode b_Model_reopen 14 = .ok (.aload_n 0, 1) := by decide +kernel
theorem d_Model_reopen_15 : decode b_Model_reopen 15 = .ok (.invokevirtual 155, 3) := by decide +kernel
theorem d_Model_reopen_18 : decode b_Model_reopen 18 = .ok (.aload_n 0, 1) := by decide +kernel
theorem d_Model_reopen_19 : decode b_Model_reopen 19 = .ok (.iload_n 1, 1) := by decide +kernel
theorem d_Model_reopen_20 : decode b_Model_reopen 20 = .ok (.putfield 65, 3) := by decide +kernel
theorem d_Model_reopen_23 : decode b_Model_reopen 23 = .ok (.aload_n 0, 1) := by decide +kernel
theorem d_Model_reopen_24 : decode b_Model_reopen 24 = .ok (.iload_n 1, 1) := by decide +kernel
theorem d_Model_reopen_25 : decode b_Model_reopen 25 = .ok (.ifCond .eq 7, 3) := by decide +kernel
theorem d_Model_reopen_28 : decode b_Model_reopen 28 = .ok (.iconst 1, 1) := by decide +kernel
theorem d_Model_reopen_29 : decode b_Model_reopen 29 = .ok (.goto 4, 3) := by decide +kernel
theorem d_Model_reopen_32 : decode b_Model_reopen 32 = .ok (.iconst 0, 1) := by decide +kernel
theorem d_Model_reopen_33 : decode b_Model_reopen 33 = .ok (.putfield 56, 3) := by decide +kernel
theorem d_Model_reopen_36 : decode b_Model_reopen 36 = .ok (.iload_n 1, 1) := by decide +kernel
theorem d_Model_reopen_37 : decode b_Model_reopen 37 = .ok (.ifCond .eq 7, 3) := by decide +kernel
theorem d_Model_reopen_40 : decode b_Model_reopen 40 = .ok (.iconst 0, 1) := by decide +kernel
theorem d_Model_reopen_41 : decode b_Model_reopen 41 = .ok (.goto 7, 3) := by decide +kernel
theorem d_Model_reopen_44 : decode b_Model_reopen 44 = .ok (.aload_n 0, 1) := by decide +kernel
theorem d_Model_reopen_45 : decode b_Model_reopen 45 = .ok (.invokevirtual 161, 3) := by decide +kernel
theorem d_Model_reopen_48 : decode b_Model_reopen 48 = .ok (.ireturn, 1) := by decide +kernel
theorem d_Model_told_0 : decode b_Model_told 0 = .ok (.aload_n 0, 1) := by decide +kernel
theorem d_Model_told_1 : decode b_Model_told 1 = .ok (.iload_n 1, 1) := by decide +kernel
theorem d_Model_told_2 : decode b_Model_told 2 = .ok (.ifCond .lt 15, 3) := by decide +kernel
theorem d_Model_told_5 : decode b_Model_told 5 = .ok (.iload_n 1, 1) := by decide +kernel
theorem d_Model_told_6 : decode b_Model_told 6 = .ok (.bipush 9, 2) := by decide +kernel
theorem d_Model_told_8 : decode b_Model_told 8 = .ok (.if_icmp .eq 9, 3) := by decide +kernel
theorem d_Model_told_11 : decode b_Model_told 11 = .ok (.iload_n 1, 1) := by decide +kernel
theorem d_Model_told_12 : decode b_Model_told 12 = .ok (.bipush 73, 2) := by decide +kernel
theorem d_Model_told_14 : decode b_Model_told 14 = .ok (.if_icmp .le 7, 3) := by decide +kernel
theorem d_Model_told_17 : decode b_Model_told 17 = .ok (.iconst 1, 1) := by decide +kernel
theorem d_Model_told_18 : decode b_Model_told 18 = .ok (.goto 4, 3) := by decide +kernel
theorem d_Model_told_21 : decode b_Model_told 21 = .ok (.iconst 0, 1) := by decide +kernel
theorem d_Model_told_22 : decode b_Model_told 22 = .ok (.putfield 56, 3) := by decide +kernel
theorem d_Model_told_25 : decode b_Model_told 25 = .ok (.aload_n 0, 1) := by decide +kernel
theorem d_Model_told_26 : decode b_Model_told 26 = .ok (.getfield 56, 3) := by decide +kernel
theorem d_Model_told_29 : decode b_Model_told 29 = .ok (.ifCond .le 5, 3) := by decide +kernel
theorem d_Model_told_32 : decode b_Model_told 32 = .ok (.iconst 0, 1) := by decide +kernel
theorem d_Model_told_33 : decode b_Model_told 33 = .ok (.ireturn, 1) := by decide +kernel
theorem d_Model_told_34 : decode b_Model_told 34 = .ok (.iload_n 1, 1) := by decide +kernel
theorem d_Model_told_35 : decode b_Model_told 35 = .ok (.ifCond .ne 16, 3) := by decide +kernel
theorem d_Model_told_38 : decode b_Model_told 38 = .ok (.aload_n 0, 1) := by decide +kernel
theorem d_Model_told_39 : decode b_Model_told 39 = .ok (.getfield 65, 3) := by decide +kernel
theorem d_Model_told_42 : decode b_Model_told 42 = .ok (.ifCond .eq 7, 3) := by decide +kernel
theorem d_Model_told_45 : decode b_Model_told 45 = .ok (.iconst 0, 1) := by decide +kernel
theorem d_Model_told_46 : decode b_Model_told 46 = .ok (.goto 4, 3) := by decide +kernel
theorem d_Model_told_49 : decode b_Model_told 49 = .ok (.iconst 1, 1) := by decide +kernel
theorem d_Model_told_50 : decode b_Model_told 50 = .ok (.ireturn, 1) := by decide +kernel
theorem d_Model_told_51 : decode b_Model_told 51 = .ok (.aload_n 0, 1) := by decide +kernel
theorem d_Model_told_52 : decode b_Model_told 52 = .ok (.getfield 65, 3) := by decide +kernel
theorem d_Model_told_55 : decode b_Model_told 55 = .ok (.ifCond .eq 5, 3) := by decide +kernel
theorem d_Model_told_58 : decode b_Model_told 58 = .ok (.iconst 0, 1) := by decide +kernel
theorem d_Model_told_59 : decode b_Model_told 59 = .ok (.ireturn, 1) := by decide +kernel
theorem d_Model_told_60 : decode b_Model_told 60 = .ok (.iload_n 1, 1) := by decide +kernel
theorem d_Model_told_61 : decode b_Model_told 61 = .ok (.bipush 10, 2) := by decide +kernel
theorem d_Model_told_63 : decode b_Model_told 63 = .ok (.if_icmp .lt 27, 3) := by decide +kernel
theorem d_Model_told_66 : decode b_Model_told 66 = .ok (.aload_n 0, 1) := by decide +kernel
theorem d_Model_told_67 : decode b_Model_told 67 = .ok (.iload_n 1, 1) := by decide +kernel
theorem d_Model_told_68 : decode b_Model_told 68 = .ok (.bipush 10, 2) := by decide +kernel
theorem d_Model_told_70 : decode b_Model_told 70 = .ok (.isub, 1) := by decide +kernel
theorem d_Model_told_71 : decode b_Model_told 71 = .ok (.invokevirtual 97, 3) := by decide +kernel
theorem d_Model_told_74 : decode b_Model_told 74 = .ok (.ifCond .eq 14, 3) := by decide +kernel
theorem d_Model_told_77 : decode b_Model_told 77 = .ok (.aload_n 0, 1) := by decide +kernel
theorem d_Model_told_78 : decode b_Model_told 78 = .ok (.iload_n 1, 1) := by decide +kernel
theorem d_Model_told_79 : decode b_Model_told 79 = .ok (.bipush 10, 2) := by decide +kernel
theorem d_Model_told_81 : decode b_Model_told 81 = .ok (.isub, 1) := by decide +kernel
theorem d_Model_told_82 : decode b_Model_told 82 = .ok (.invokevirtual 108, 3) := by decide +kernel
theorem d_Model_told_85 : decode b_Model_told 85 = .ok (.goto 4, 3) := by decide +kernel
theorem d_Model_told_88 : decode b_Model_told 88 = .ok (.iconst (-1), 1) := by decide +kernel
theorem d_Model_told_89 : decode b_Model_told 89 = .ok (.ireturn, 1) := by decide +kernel
theorem d_Model_told_90 : decode b_Model_told 90 = .ok (.iload_n 1, 1) := by decide +kernel
theorem d_Model_told_91 : decode b_Model_told 91 = .ok (.iconst 1, 1) := by decide +kernel
theorem d_Model_told_92 : decode b_Model_told 92 = .ok (.if_icmp .ne 16, 3) := by decide +kernel
theorem d_Model_told_95 : decode b_Model_told 95 = .ok (.aload_n 0, 1) := by decide +kernel
theorem d_Model_told_96 : decode b_Model_told 96 = .ok (.getfield 101, 3) := by decide +kernel
theorem d_Model_told_99 : decode b_Model_told 99 = .ok (.ifCond .eq 7, 3) := by decide +kernel
theorem d_Model_told_102 : decode b_Model_told 102 = .ok (.iconst 1, 1) := by decide +kernel
theorem d_Model_told_103 : decode b_Model_told 103 = .ok (.goto 4, 3) := by decide +kernel
theorem d_Model_told_106 : decode b_Model_told 106 = .ok (.iconst 0, 1) := by decide +kernel
theorem d_Model_told_107 : decode b_Model_told 107 = .ok (.ireturn, 1) := by decide +kernel
theorem d_Model_told_108 : decode b_Model_told 108 = .ok (.iload_n 1, 1) := by decide +kernel
theorem d_Model_told_109 : decode b_Model_told 109 = .ok (.iconst 2, 1) := by decide +kernel
theorem d_Model_told_110 : decode b_Model_told 110 = .ok (.if_icmp .ne 8, 3) := by decide +kernel
theorem d_Model_told_113 : decode b_Model_told 113 = .ok (.aload_n 0, 1) := by decide +kernel
theorem d_Model_told_114 : decode b_Model_told 114 = .ok (.getfield 88, 3) := by decide +kernel
theorem d_Model_told_117 : decode b_Model_told 117 = .ok (.ireturn, 1) := by decide +kernel
theorem d_Model_told_118 : decode b_Model_told 118 = .ok (.iload_n 1, 1) := by decide +kernel
theorem d_Model_told_119 : decode b_Model_told 119 = .ok (.iconst 3, 1) := by decide +kernel
theorem d_Model_told_120 : decode b_Model_told 120 = .ok (.if_icmp .ne 8, 3) := by decide +kernel
theorem d_Model_told_123 : decode b_Model_told 123 = .ok (.aload_n 0, 1) := by decide +kernel
theorem d_Model_told_124 : decode b_Model_told 124 = .ok (.invokevirtual 161, 3) := by decide +kernel
theorem d_Model_told_127 : decode b_Model_told 127 = .ok (.ireturn, 1) := by decide +kernel
theorem d_Model_told_128 : decode b_Model_told 128 = .ok (.iload_n 1, 1) := by decide +kernel
theorem d_Model_told_129 : decode b_Model_told 129 = .ok (.iconst 4, 1) := by decide +kernel
theorem d_Model_told_130 : decode b_Model_told 130 = .ok (.if_icmp .ne 8, 3) := by decide +kernel
theorem d_Model_told_133 : decode b_Model_told 133 = .ok (.aload_n 0, 1) := by decide +kernel
theorem d_Model_told_134 : decode b_Model_told 134 = .ok (.invokevirtual 120, 3) := by decide +kernel
theorem d_Model_told_137 : decode b_Model_told 137 = .ok (.ireturn, 1) := by decide +kernel
theorem d_Model_told_138 : decode b_Model_told 138 = .ok (.iload_n 1, 1) := by decide +kernel
theorem d_Model_told_139 : decode b_Model_told 139 = .ok (.iconst 5, 1) := by decide +kernel
theorem d_Model_told_140 : decode b_Model_told 140 = .ok (.if_icmp .ne 8, 3) := by decide +kernel
theorem d_Model_told_143 : decode b_Model_told 143 = .ok (.aload_n 0, 1) := by decide +kernel
theorem d_Model_told_144 : decode b_Model_told 144 = .ok (.getfield 59, 3) := by decide +kernel
theorem d_Model_told_147 : decode b_Model_told 147 = .ok (.ireturn, 1) := by decide +kernel
theorem d_Model_told_148 : decode b_Model_told 148 = .ok (.iload_n 1, 1) := by decide +kernel
theorem d_Model_told_149 : decode b_Model_told 149 = .ok (.bipush 6, 2) := by decide +kernel
theorem d_Model_told_151 : decode b_Model_told 151 = .ok (.if_icmp .ne 8, 3) := by decide +kernel
theorem d_Model_told_154 : decode b_Model_told 154 = .ok (.aload_n 0, 1) := by decide +kernel
theorem d_Model_told_155 : decode b_Model_told 155 = .ok (.getfield 62, 3) := by decide +kernel
theorem d_Model_told_158 : decode b_Model_told 158 = .ok (.ireturn, 1) := by decide +kernel
theorem d_Model_told_159 : decode b_Model_told 159 = .ok (.aload_n 0, 1) := by decide +kernel
theorem d_Model_told_160 : decode b_Model_told 160 = .ok (.getfield 132, 3) := by decide +kernel
theorem d_Model_told_163 : decode b_Model_told 163 = .ok (.ifCond .ne 5, 3) := by decide +kernel
theorem d_Model_told_166 : decode b_Model_told 166 = .ok (.iconst 0, 1) := by decide +kernel
theorem d_Model_told_167 : decode b_Model_told 167 = .ok (.ireturn, 1) := by decide +kernel
theorem d_Model_told_168 : decode b_Model_told 168 = .ok (.iload_n 1, 1) := by decide +kernel
theorem d_Model_told_169 : decode b_Model_told 169 = .ok (.bipush 7, 2) := by decide +kernel
theorem d_Model_told_171 : decode b_Model_told 171 = .ok (.if_icmp .ne 10, 3) := by decide +kernel
theorem d_Model_told_174 : decode b_Model_told 174 = .ok (.aload_n 0, 1) := by decide +kernel
theorem d_Model_told_175 : decode b_Model_told 175 = .ok (.getfield 135, 3) := by decide +kernel
theorem d_Model_told_178 : decode b_Model_told 178 = .ok (.goto 7, 3) := by decide +kernel
theorem d_Model_told_181 : decode b_Model_told 181 = .ok (.aload_n 0, 1) := by decide +kernel
theorem d_Model_told_182 : decode b_Model_told 182 = .ok (.getfield 138, 3) := by decide +kernel
theorem d_Model_told_185 : decode b_Model_told 185 = .ok (.ireturn, 1) := by decide +kernel
theorem d_Model_check_0 : decode b_Model_check 0 = .ok (.aload_n 0, 1) := by decide +kernel
theorem d_Model_check_1 : decode b_Model_check 1 = .ok (.aload_n 0, 1) := by decide +kernel
theorem d_Model_check_2 : decode b_Model_check 2 = .ok (.getfield 65, 3) := by decide +kernel
theorem d_Model_check_5 : decode b_Model_check 5 = .ok (.ifCond .eq 7, 3) := by decide +kernel
theorem d_Model_check_8 : decode b_Model_check 8 = .ok (.iconst 1, 1) := by decide +kernel
theorem d_Model_check_9 : decode b_Model_check 9 = .ok (.goto 4, 3) := by decide +kernel
theorem d_Model_check_12 : decode b_Model_check 12 = .ok (.iconst 0, 1) := by decide +kernel
theorem d_Model_check_13 : decode b_Model_check 13 = .ok (.putfield 56, 3) := by decide +kernel
theorem d_Model_check_16 : decode b_Model_check 16 = .ok (.iconst 0, 1) := by decide +kernel
theorem d_Model_check_17 : decode b_Model_check 17 = .ok (.ireturn, 1) := by decide +kernel
