/-! decode rows -/
theorem d_Store_init_0 : decode b_Store_init 0 = .ok (.aload_n 0, 1) := by decide +kernel
theorem d_Store_init_1 : decode b_Store_init 1 = .ok (.invokespecial 3, 3) := by decide +kernel
theorem d_Store_init_4 : decode b_Store_init 4 = .ok (.aload_n 0, 1) := by decide +kernel
theorem d_Store_init_5 : decode b_Store_init 5 = .ok (.new 9, 3) := by decide +kernel
theorem d_Store_init_8 : decode b_Store_init 8 = .ok (.dup, 1) := by decide +kernel
theorem d_Store_init_9 : decode b_Store_init 9 = .ok (.invokespecial 11, 3) := by decide +kernel
theorem d_Store_init_12 : decode b_Store_init 12 = .ok (.putfield 12, 3) := by decide +kernel
theorem d_Store_init_15 : decode b_Store_init 15 = .ok (.aload_n 0, 1) := by decide +kernel
theorem d_Store_init_16 : decode b_Store_init 16 = .ok (.new 9, 3) := by decide +kernel
theorem d_Store_init_19 : decode b_Store_init 19 = .ok (.dup, 1) := by decide +kernel
theorem d_Store_init_20 : decode b_Store_init 20 = .ok (.invokespecial 11, 3) := by decide +kernel
theorem d_Store_init_23 : decode b_Store_init 23 = .ok (.putfield 16, 3) := by decide +kernel
theorem d_Store_init_26 : decode b_Store_init 26 = .ok (.aload_n 0, 1) := by decide +kernel
theorem d_Store_init_27 : decode b_Store_init 27 = .ok (.new 9, 3) := by decide +kernel
theorem d_Store_init_30 : decode b_Store_init 30 = .ok (.dup, 1) := by decide +kernel
theorem d_Store_init_31 : decode b_Store_init 31 = .ok (.invokespecial 11, 3) := by decide +kernel
theorem d_Store_init_34 : decode b_Store_init 34 = .ok (.putfield 19, 3) := by decide +kernel
theorem d_Store_init_37 : decode b_Store_init 37 = .ok (.aload_n 0, 1) := by decide +kernel
theorem d_Store_init_38 : decode b_Store_init 38 = .ok (.new 9, 3) := by decide +kernel
theorem d_Store_init_41 : decode b_Store_init 41 = .ok (.dup, 1) := by decide +kernel
theorem d_Store_init_42 : decode b_Store_init 42 = .ok (.invokespecial 11, 3) := by decide +kernel
theorem d_Store_init_45 : decode b_Store_init 45 = .ok (.putfield 22, 3) := by decide +kernel
theorem d_Store_init_48 : decode b_Store_init 48 = .ok (.aload_n 0, 1) := by decide +kernel
theorem d_Store_init_49 : decode b_Store_init 49 = .ok (.new 25, 3) := by decide +kernel
theorem d_Store_init_52 : decode b_Store_init 52 = .ok (.dup, 1) := by decide +kernel
theorem d_Store_init_53 : decode b_Store_init 53 = .ok (.invokespecial 27, 3) := by decide +kernel
theorem d_Store_init_56 : decode b_Store_init 56 = .ok (.putfield 28, 3) := by decide +kernel
theorem d_Store_init_59 : decode b_Store_init 59 = .ok (.aload_n 0, 1) := by decide +kernel
theorem d_Store_init_60 : decode b_Store_init 60 = .ok (.new 32, 3) := by decide +kernel
theorem d_Store_init_63 : decode b_Store_init 63 = .ok (.dup, 1) := by decide +kernel
theorem d_Store_init_64 : decode b_Store_init 64 = .ok (.invokespecial 34, 3) := by decide +kernel
theorem d_Store_init_67 : decode b_Store_init 67 = .ok (.putfield 35, 3) := by decide +kernel
theorem d_Store_init_70 : decode b_Store_init 70 = .ok (.aload_n 0, 1) := by decide +kernel
theorem d_Store_init_71 : decode b_Store_init 71 = .ok (.new 39, 3) := by decide +kernel
theorem d_Store_init_74 : decode b_Store_init 74 = .ok (.dup, 1) := by decide +kernel
theorem d_Store_init_75 : decode b_Store_init 75 = .ok (.invokespecial 41, 3) := by decide +kernel
theorem d_Store_init_78 : decode b_Store_init 78 = .ok (.putfield 42, 3) := by decide +kernel
theorem d_Store_init_81 : decode b_Store_init 81 = .ok (.new 46, 3) := by decide +kernel
theorem d_Store_init_84 : decode b_Store_init 84 = .ok (.dup, 1) := by decide +kernel
theorem d_Store_init_85 : decode b_Store_init 85 = .ok (.aload_n 0, 1) := by decide +kernel
theorem d_Store_init_86 : decode b_Store_init 86 = .ok (.getfield 35, 3) := by decide +kernel
theorem d_Store_init_89 : decode b_Store_init 89 = .ok (.invokespecial 48, 3) := by decide +kernel
theorem d_Store_init_92 : decode b_Store_init 92 = .ok (.astore_n 1, 1) := by decide +kernel
theorem d_Store_init_93 : decode b_Store_init 93 = .ok (.aload_n 0, 1) := by decide +kernel
theorem d_Store_init_94 : decode b_Store_init 94 = .ok (.new 51, 3) := by decide +kernel
theorem d_Store_init_97 : decode b_Store_init 97 = .ok (.dup, 1) := by decide +kernel
theorem d_Store_init_98 : decode b_Store_init 98 = .ok (.aload_n 0, 1) := by decide +kernel
theorem d_Store_init_99 : decode b_Store_init 99 = .ok (.getfield 35, 3) := by decide +kernel
theorem d_Store_init_102 : decode b_Store_init 102 = .ok (.invokespecial 53, 3) := by decide +kernel
theorem d_Store_init_105 : decode b_Store_init 105 = .ok (.putfield 54, 3) := by decide +kernel
theorem d_Store_init_108 : decode b_Store_init 108 = .ok (.aload_n 0, 1) := by decide +kernel
theorem d_Store_init_109 : decode b_Store_init 109 = .ok (.new 58, 3) := by decide +kernel
theorem d_Store_init_112 : decode b_Store_init 112 = .ok (.dup, 1) := by decide +kernel
theorem d_Store_init_113 : decode b_Store_init 113 = .ok (.aload_n 0, 1) := by decide +kernel
theorem d_Store_init_114 : decode b_Store_init 114 = .ok (.getfield 35, 3) := by decide +kernel
theorem d_Store_init_117 : decode b_Store_init 117 = .ok (.aload_n 1, 1) := by decide +kernel
theorem d_Store_init_118 : decode b_Store_init 118 = .ok (.aload_n 0, 1) := by decide +kernel
theorem d_Store_init_119 : decode b_Store_init 119 = .ok (.getfield 54, 3) := by decide +kernel
theorem d_Store_init_122 : decode b_Store_init 122 = .ok (.invokespecial 60, 3) := by decide +kernel
theorem d_Store_init_125 : decode b_Store_init 125 = .ok (.putfield 63, 3) := by decide +kernel
theorem d_Store_init_128 : decode b_Store_init 128 = .ok (.aload_n 0, 1) := by decide +kernel
theorem d_Store_init_129 : decode b_Store_init 129 = .ok (.new 67, 3) := by decide +kernel
theorem d_Store_init_132 : decode b_Store_init 132 = .ok (.dup, 1) := by decide +kernel
theorem d_Store_init_133 : decode b_Store_init 133 = .ok (.aload_n 0, 1) := by decide +kernel
theorem d_Store_init_134 : decode b_Store_init 134 = .ok (.getfield 35, 3) := by decide +kernel
theorem d_Store_init_137 : decode b_Store_init 137 = .ok (.aload_n 1, 1) := by decide +kernel
theorem d_Store_init_138 : decode b_Store_init 138 = .ok (.aload_n 0, 1) := by decide +kernel
theorem d_Store_init_139 : decode b_Store_init 139 = .ok (.getfield 54, 3) := by decide +kernel
theorem d_Store_init_142 : decode b_Store_init 142 = .ok (.aload_n 0, 1) := by decide +kernel
theorem d_Store_init_143 : decode b_Store_init 143 = .ok (.getfield 63, 3) := by decide +kernel
theorem d_Store_init_146 : decode b_Store_init 146 = .ok (.invokespecial 69, 3) := by decide +kernel
theorem d_Store_init_149 : decode b_Store_init 149 = .ok (.putfield 72, 3) := by decide +kernel
theorem d_Store_init_152 : decode b_Store_init 152 = .ok (.aload_n 0, 1) := by decide +kernel
theorem d_Store_init_153 : decode b_Store_init 153 = .ok (.iconst 0, 1) := by decide +kernel
theorem d_Store_init_154 : decode b_Store_init 154 = .ok (.putfield 76, 3) := by decide +kernel
theorem d_Store_init_157 : decode b_Store_init 157 = .ok (.aload_n 0, 1) := by decide +kernel
theorem d_Store_init_158 : decode b_Store_init 158 = .ok (.iconst 1, 1) := by decide +kernel
theorem d_Store_init_159 : decode b_Store_init 159 = .ok (.putfield 80, 3) := by decide +kernel
theorem d_Store_init_162 : decode b_Store_init 162 = .ok (.aload_n 0, 1) := by decide +kernel
theorem d_Store_init_163 : decode b_Store_init 163 = .ok (.iconst 0, 1) := by decide +kernel
theorem d_Store_init_164 : decode b_Store_init 164 = .ok (.putfield 83, 3) := by decide +kernel
theorem d_Store_init_167 : decode b_Store_init 167 = .ok (.return_, 1) := by decide +kernel
theorem d_Store_key_0 : decode b_Store_key 0 = .ok (.aload_n 0, 1) := by decide +kernel
theorem d_Store_key_1 : decode b_Store_key 1 = .ok (.aload_n 0, 1) := by decide +kernel
theorem d_Store_key_2 : decode b_Store_key 2 = .ok (.getfield 12, 3) := by decide +kernel
theorem d_Store_key_5 : decode b_Store_key 5 = .ok (.lload_n 1, 1) := by decide +kernel
theorem d_Store_key_6 : decode b_Store_key 6 = .ok (.iload_n 3, 1) := by decide +kernel
theorem d_Store_key_7 : decode b_Store_key 7 = .ok (.invokevirtual 86, 3) := by decide +kernel
theorem d_Store_key_10 : decode b_Store_key 10 = .ok (.ireturn, 1) := by decide +kernel
theorem d_Store_value_0 : decode b_Store_value 0 = .ok (.aload_n 0, 1) := by decide +kernel
theorem d_Store_value_1 : decode b_Store_value 1 = .ok (.aload_n 0, 1) := by decide +kernel
theorem d_Store_value_2 : decode b_Store_value 2 = .ok (.getfield 16, 3) := by decide +kernel
theorem d_Store_value_5 : decode b_Store_value 5 = .ok (.lload_n 1, 1) := by decide +kernel
theorem d_Store_value_6 : decode b_Store_value 6 = .ok (.iload_n 3, 1) := by decide +kernel
theorem d_Store_value_7 : decode b_Store_value 7 = .ok (.invokevirtual 86, 3) := by decide +kernel
theorem d_Store_value_10 : decode b_Store_value 10 = .ok (.ireturn, 1) := by decide +kernel
theorem d_Store_fill_0 : decode b_Store_fill 0 = .ok (.iload_n 2, 1) := by decide +kernel
theorem d_Store_fill_1 : decode b_Store_fill 1 = .ok (.ifCond .lt 10, 3) := by decide +kernel
theorem d_Store_fill_4 : decode b_Store_fill 4 = .ok (.iload_n 2, 1) := by decide +kernel
theorem d_Store_fill_5 : decode b_Store_fill 5 = .ok (.sipush 8448, 3) := by decide +kernel
theorem d_Store_fill_8 : decode b_Store_fill 8 = .ok (.if_icmp .le 13, 3) := by decide +kernel
theorem d_Store_fill_11 : decode b_Store_fill 11 = .ok (.new 90, 3) := by decide +kernel
theorem d_Store_fill_14 : decode b_Store_fill 14 = .ok (.dup, 1) := by decide +kernel
theorem d_Store_fill_15 : decode b_Store_fill 15 = .ok (.ldc 92, 2) := by decide +kernel
theorem d_Store_fill_17 : decode b_Store_fill 17 = .ok (.invokespecial 94, 3) := by decide +kernel
theorem d_Store_fill_20 : decode b_Store_fill 20 = .ok (.athrow, 1) := by decide +kernel
theorem d_Store_fill_21 : decode b_Store_fill 21 = .ok (.iload_n 1, 1) := by decide +kernel
theorem d_Store_fill_22 : decode b_Store_fill 22 = .ok (.ifCond .eq 10, 3) := by decide +kernel
theorem d_Store_fill_25 : decode b_Store_fill 25 = .ok (.aload_n 0, 1) := by decide +kernel
theorem d_Store_fill_26 : decode b_Store_fill 26 = .ok (.getfield 12, 3) := by decide +kernel
theorem d_Store_fill_29 : decode b_Store_fill 29 = .ok (.goto 7, 3) := by decide +kernel
theorem d_Store_fill_32 : decode b_Store_fill 32 = .ok (.aload_n 0, 1) := by decide +kernel
theorem d_Store_fill_33 : decode b_Store_fill 33 = .ok (.getfield 16, 3) := by decide +kernel
theorem d_Store_fill_36 : decode b_Store_fill 36 = .ok (.astore 4, 2) := by decide +kernel
theorem d_Store_fill_38 : decode b_Store_fill 38 = .ok (.aload_n 0, 1) := by decide +kernel
theorem d_Store_fill_39 : decode b_Store_fill 39 = .ok (.aload 4, 2) := by decide +kernel
theorem d_Store_fill_41 : decode b_Store_fill 41 = .ok (.iload_n 2, 1) := by decide +kernel
theorem d_Store_fill_42 : decode b_Store_fill 42 = .ok (.invokevirtual 97, 3) := by decide +kernel
theorem d_Store_fill_45 : decode b_Store_fill 45 = .ok (.aload 4, 2) := by decide +kernel
theorem d_Store_fill_47 : decode b_Store_fill 47 = .ok (.iload_n 2, 1) := by decide +kernel
theorem d_Store_fill_48 : decode b_Store_fill 48 = .ok (.iload_n 3, 1) := by decide +kernel
theorem d_Store_fill_49 : decode b_Store_fill 49 = .ok (.invokevirtual 101, 3) := by decide +kernel
theorem d_Store_fill_52 : decode b_Store_fill 52 = .ok (.aload 4, 2) := by decide +kernel
theorem d_Store_fill_54 : decode b_Store_fill 54 = .ok (.invokevirtual 105, 3) := by decide +kernel
theorem d_Store_fill_57 : decode b_Store_fill 57 = .ok (.ireturn, 1) := by decide +kernel
theorem d_Store_tree_0 : decode b_Store_tree 0 = .ok (.aload_n 0, 1) := by decide +kernel
theorem d_Store_tree_1 : decode b_Store_tree 1 = .ok (.invokevirtual 109, 3) := by decide +kernel
theorem d_Store_tree_4 : decode b_Store_tree 4 = .ok (.aload_n 0, 1) := by decide +kernel
theorem d_Store_tree_5 : decode b_Store_tree 5 = .ok (.getfield 63, 3) := by decide +kernel
theorem d_Store_tree_8 : decode b_Store_tree 8 = .ok (.invokevirtual 112, 3) := by decide +kernel
theorem d_Store_tree_11 : decode b_Store_tree 11 = .ok (.istore_n 1, 1) := by decide +kernel
theorem d_Store_tree_12 : decode b_Store_tree 12 = .ok (.iload_n 1, 1) := by decide +kernel
theorem d_Store_tree_13 : decode b_Store_tree 13 = .ok (.bipush 64, 2) := by decide +kernel
theorem d_Store_tree_15 : decode b_Store_tree 15 = .ok (.if_icmp .ne 13, 3) := by decide +kernel
theorem d_Store_tree_18 : decode b_Store_tree 18 = .ok (.new 115, 3) := by decide +kernel
theorem d_Store_tree_21 : decode b_Store_tree 21 = .ok (.dup, 1) := by decide +kernel
theorem d_Store_tree_22 : decode b_Store_tree 22 = .ok (.ldc 117, 2) := by decide +kernel
theorem d_Store_tree_24 : decode b_Store_tree 24 = .ok (.invokespecial 119, 3) := by decide +kernel
theorem d_Store_tree_27 : decode b_Store_tree 27 = .ok (.athrow, 1) := by decide +kernel
theorem d_Store_tree_28 : decode b_Store_tree 28 = .ok (.aload_n 0, 1) := by decide +kernel
theorem d_Store_tree_29 : decode b_Store_tree 29 = .ok (.getfield 63, 3) := by decide +kernel
theorem d_Store_tree_32 : decode b_Store_tree 32 = .ok (.iload_n 1, 1) := by decide +kernel
theorem d_Store_tree_33 : decode b_Store_tree 33 = .ok (.invokevirtual 120, 3) := by decide +kernel
theorem d_Store_tree_36 : decode b_Store_tree 36 = .ok (.iload_n 1, 1) := by decide +kernel
theorem d_Store_tree_37 : decode b_Store_tree 37 = .ok (.ireturn, 1) := by decide +kernel
theorem d_Store_drop_0 : decode b_Store_drop 0 = .ok (.aload_n 0, 1) := by decide +kernel
theorem d_Store_drop_1 : decode b_Store_drop 1 = .ok (.invokevirtual 109, 3) := by decide +kernel
theorem d_Store_drop_4 : decode b_Store_drop 4 = .ok (.aload_n 0, 1) := by decide +kernel
theorem d_Store_drop_5 : decode b_Store_drop 5 = .ok (.iload_n 1, 1) := by decide +kernel
theorem d_Store_drop_6 : decode b_Store_drop 6 = .ok (.invokevirtual 124, 3) := by decide +kernel
theorem d_Store_drop_9 : decode b_Store_drop 9 = .ok (.aload_n 0, 1) := by decide +kernel
theorem d_Store_drop_10 : decode b_Store_drop 10 = .ok (.getfield 63, 3) := by decide +kernel
theorem d_Store_drop_13 : decode b_Store_drop 13 = .ok (.iload_n 1, 1) := by decide +kernel
theorem d_Store_drop_14 : decode b_Store_drop 14 = .ok (.invokevirtual 127, 3) := by decide +kernel
theorem d_Store_drop_17 : decode b_Store_drop 17 = .ok (.ireturn, 1) := by decide +kernel
theorem d_Store_put_0 : decode b_Store_put 0 = .ok (.aload_n 0, 1) := by decide +kernel
theorem d_Store_put_1 : decode b_Store_put 1 = .ok (.invokevirtual 109, 3) := by decide +kernel
theorem d_Store_put_4 : decode b_Store_put 4 = .ok (.aload_n 0, 1) := by decide +kernel
theorem d_Store_put_5 : decode b_Store_put 5 = .ok (.iload_n 1, 1) := by decide +kernel
theorem d_Store_put_6 : decode b_Store_put 6 = .ok (.invokevirtual 124, 3) := by decide +kernel
theorem d_Store_put_9 : decode b_Store_put 9 = .ok (.aload_n 0, 1) := by decide +kernel
theorem d_Store_put_10 : decode b_Store_put 10 = .ok (.getfield 12, 3) := by decide +kernel
theorem d_Store_put_13 : decode b_Store_put 13 = .ok (.invokevirtual 105, 3) := by decide +kernel
theorem d_Store_put_16 : decode b_Store_put 16 = .ok (.ifCond .ne 13, 3) := by decide +kernel
theorem d_Store_put_19 : decode b_Store_put 19 = .ok (.new 90, 3) := by decide +kernel
theorem d_Store_put_22 : decode b_Store_put 22 = .ok (.dup, 1) := by decide +kernel
theorem d_Store_put_23 : decode b_Store_put 23 = .ok (.ldc 131, 2) := by decide +kernel
theorem d_Store_put_25 : decode b_Store_put 25 = .ok (.invokespecial 94, 3) := by decide +kernel
theorem d_Store_put_28 : decode b_Store_put 28 = .ok (.athrow, 1) := by decide +kernel
theorem d_Store_put_29 : decode b_Store_put 29 = .ok (.aload_n 0, 1) := by decide +kernel
theorem d_Store_put_30 : decode b_Store_put 30 = .ok (.getfield 63, 3) := by decide +kernel
theorem d_Store_put_33 : decode b_Store_put 33 = .ok (.iload_n 1, 1) := by decide +kernel
theorem d_Store_put_34 : decode b_Store_put 34 = .ok (.aload_n 0, 1) := by decide +kernel
theorem d_Store_put_35 : decode b_Store_put 35 = .ok (.getfield 12, 3) := by decide +kernel
theorem d_Store_put_38 : decode b_Store_put 38 = .ok (.invokevirtual 133, 3) := by decide +kernel
theorem d_Store_put_41 : decode b_Store_put 41 = .ok (.istore_n 2, 1) := by decide +kernel
theorem d_Store_put_42 : decode b_Store_put 42 = .ok (.bipush 16, 2) := by decide +kernel
theorem d_Store_put_44 : decode b_Store_put 44 = .ok (.aload_n 0, 1) := by decide +kernel
theorem d_Store_put_45 : decode b_Store_put 45 = .ok (.getfield 12, 3) := by decide +kernel
theorem d_Store_put_48 : decode b_Store_put 48 = .ok (.invokevirtual 105, 3) := by decide +kernel
theorem d_Store_put_51 : decode b_Store_put 51 = .ok (.iadd, 1) := by decide +kernel
theorem d_Store_put_52 : decode b_Store_put 52 = .ok (.aload_n 0, 1) := by decide +kernel
theorem d_Store_put_53 : decode b_Store_put 53 = .ok (.getfield 16, 3) := by decide +kernel
theorem d_Store_put_56 : decode b_Store_put 56 = .ok (.invokevirtual 105, 3) := by decide +kernel
theorem d_Store_put_59 : decode b_Store_put 59 = .ok (.iadd, 1) := by decide +kernel
theorem d_Store_put_60 : decode b_Store_put 60 = .ok (.aload_n 0, 1) := by decide +kernel
theorem d_Store_put_61 : decode b_Store_put 61 = .ok (.getfield 54, 3) := by decide +kernel
theorem d_Store_put_64 : decode b_Store_put 64 = .ok (.iload_n 2, 1) := by decide +kernel
theorem d_Store_put_65 : decode b_Store_put 65 = .ok (.invokevirtual 137, 3) := by decide +kernel
theorem d_Store_put_68 : decode b_Store_put 68 = .ok (.isub, 1) := by decide +kernel
theorem d_Store_put_69 : decode b_Store_put 69 = .ok (.istore_n 3, 1) := by decide +kernel
theorem d_Store_put_70 : decode b_Store_put 70 = .ok (.aload_n 0, 1) := by decide +kernel
theorem d_Store_put_71 : decode b_Store_put 71 = .ok (.getfield 35, 3) := by decide +kernel
theorem d_Store_put_74 : decode b_Store_put 74 = .ok (.bipush 8, 2) := by decide +kernel
theorem d_Store_put_76 : decode b_Store_put 76 = .ok (.invokevirtual 140, 3) := by decide +kernel
theorem d_Store_put_79 : decode b_Store_put 79 = .ok (.iload_n 3, 1) := by decide +kernel
theorem d_Store_put_80 : decode b_Store_put 80 = .ok (.iadd, 1) := by decide +kernel
theorem d_Store_put_81 : decode b_Store_put 81 = .ok (.ldc 143, 2) := by decide +kernel
theorem d_Store_put_83 : decode b_Store_put 83 = .ok (.if_icmp .le 13, 3) := by decide +kernel
theorem d_Store_put_86 : decode b_Store_put 86 = .ok (.new 115, 3) := by decide +kernel
theorem d_Store_put_89 : decode b_Store_put 89 = .ok (.dup, 1) := by decide +kernel
theorem d_Store_put_90 : decode b_Store_put 90 = .ok (.ldc 144, 2) := by decide +kernel
theorem d_Store_put_92 : decode b_Store_put 92 = .ok (.invokespecial 119, 3) := by decide +kernel
theorem d_Store_put_95 : decode b_Store_put 95 = .ok (.athrow, 1) := by decide +kernel
theorem d_Store_put_96 : decode b_Store_put 96 = .ok (.iload_n 2, 1) := by decide +kernel
theorem d_Store_put_97 : decode b_Store_put 97 = .ok (.ifCond .eq 21, 3) := by decide +kernel
theorem d_Store_put_100 : decode b_Store_put 100 = .ok (.aload_n 0, 1) := by decide +kernel
theorem d_Store_put_101 : decode b_Store_put 101 = .ok (.getfield 63, 3) := by decide +kernel
theorem d_Store_put_104 : decode b_Store_put 104 = .ok (.aload_n 0, 1) := by decide +kernel
theorem d_Store_put_105 : decode b_Store_put 105 = .ok (.getfield 12, 3) := by decide +kernel
theorem d_Store_put_108 : decode b_Store_put 108 = .ok (.aload_n 0, 1) := by decide +kernel
theorem d_Store_put_109 : decode b_Store_put 109 = .ok (.getfield 16, 3) := by decide +kernel
theorem d_Store_put_112 : decode b_Store_put 112 = .ok (.invokevirtual 146, 3) := by decide +kernel
theorem d_Store_put_115 : decode b_Store_put 115 = .ok (.goto 19, 3) := by decide +kernel
theorem d_Store_put_118 : decode b_Store_put 118 = .ok (.aload_n 0, 1) := by decide +kernel
theorem d_Store_put_119 : decode b_Store_put 119 = .ok (.getfield 63, 3) := by decide +kernel
theorem d_Store_put_122 : decode b_Store_put 122 = .ok (.iload_n 1, 1) := by decide +kernel
theorem d_Store_put_123 : decode b_Store_put 123 = .ok (.aload_n 0, 1) := by decide +kernel
theorem d_Store_put_124 : decode b_Store_put 124 = .ok (.getfield 12, 3) := by decide +kernel
theorem d_Store_put_127 : decode b_Store_put 127 = .ok (.aload_n 0, 1) := by decide +kernel
theorem d_Store_put_128 : decode b_Store_put 128 = .ok (.getfield 16, 3) := by decide +kernel
theorem d_Store_put_131 : decode b_Store_put 131 = .ok (.invokevirtual 150, 3) := by decide +kernel
theorem d_Store_put_134 : decode b_Store_put 134 = .ok (.iload_n 2, 1) := by decide +kernel
theorem d_Store_put_135 : decode b_Store_put 135 = .ok (.ifCond .eq 7, 3) := by decide +kernel
theorem d_Store_put_138 : decode b_Store_put 138 = .ok (.iconst 1, 1) := by decide +kernel
theorem d_Store_put_139 : decode b_Store_put 139 = .ok (.goto 4, 3) := by decide +kernel
theorem d_Store_put_142 : decode b_Store_put 142 = .ok (.iconst 0, 1) := by decide +kernel
theorem d_Store_put_143 : decode b_Store_put 143 = .ok (.ireturn, 1) := by decide +kernel
theorem d_Store_remove_0 : decode b_Store_remove 0 = .ok (.aload_n 0, 1) := by decide +kernel
theorem d_Store_remove_1 : decode b_Store_remove 1 = .ok (.invokevirtual 109, 3) := by decide +kernel
theorem d_Store_remove_4 : decode b_Store_remove 4 = .ok (.aload_n 0, 1) := by decide +kernel
theorem d_Store_remove_5 : decode b_Store_remove 5 = .ok (.iload_n 1, 1) := by decide +kernel
theorem d_Store_remove_6 : decode b_Store_remove 6 = .ok (.invokevirtual 124, 3) := by decide +kernel
theorem d_Store_remove_9 : decode b_Store_remove 9 = .ok (.aload_n 0, 1) := by decide +kernel
theorem d_Store_remove_10 : decode b_Store_remove 10 = .ok (.getfield 63, 3) := by decide +kernel
theorem d_Store_remove_13 : decode b_Store_remove 13 = .ok (.iload_n 1, 1) := by decide +kernel
theorem d_Store_remove_14 : decode b_Store_remove 14 = .ok (.aload_n 0, 1) := by decide +kernel
theorem d_Store_remove_15 : decode b_Store_remove 15 = .ok (.getfield 12, 3) := by decide +kernel
theorem d_Store_remove_18 : decode b_Store_remove 18 = .ok (.invokevirtual 133, 3) := by decide +kernel
theorem d_Store_remove_21 : decode b_Store_remove 21 = .ok (.istore_n 2, 1) := by decide +kernel
theorem d_Store_remove_22 : decode b_Store_remove 22 = .ok (.iload_n 2, 1) := by decide +kernel
theorem d_Store_remove_23 : decode b_Store_remove 23 = .ok (.ifCond .eq 11, 3) := by decide +kernel
theorem d_Store_remove_26 : decode b_Store_remove 26 = .ok (.aload_n 0, 1) := by decide +kernel
theorem d_Store_remove_27 : decode b_Store_remove 27 = .ok (.getfield 63, 3) := by decide +kernel
theorem d_Store_remove_30 : decode b_Store_remove 30 = .ok (.iload_n 1, 1) := by decide +kernel
theorem d_Store_remove_31 : decode b_Store_remove 31 = .ok (.invokevirtual 154, 3) := by decide +kernel
theorem d_Store_remove_34 : decode b_Store_remove 34 = .ok (.iload_n 2, 1) := by decide +kernel
theorem d_Store_remove_35 : decode b_Store_remove 35 = .ok (.ifCond .eq 7, 3) := by decide +kernel
theorem d_Store_remove_38 : decode b_Store_remove 38 = .ok (.iconst 1, 1) := by decide +kernel
theorem d_Store_remove_39 : decode b_Store_remove 39 = .ok (.goto 4, 3) := by decide +kernel
theorem d_Store_remove_42 : decode b_Store_remove 42 = .ok (.iconst 0, 1) := by decide +kernel
theorem d_Store_remove_43 : decode b_Store_remove 43 = .ok (.ireturn, 1) := by decide +kernel
theorem d_Store_seek_0 : decode b_Store_seek 0 = .ok (.aload_n 0, 1) := by decide +kernel
theorem d_Store_seek_1 : decode b_Store_seek 1 = .ok (.invokevirtual 157, 3) := by decide +kernel
theorem d_Store_seek_4 : decode b_Store_seek 4 = .ok (.aload_n 0, 1) := by decide +kernel
theorem d_Store_seek_5 : decode b_Store_seek 5 = .ok (.iload_n 1, 1) := by decide +kernel
theorem d_Store_seek_6 : decode b_Store_seek 6 = .ok (.invokevirtual 124, 3) := by decide +kernel
theorem d_Store_seek_9 : decode b_Store_seek 9 = .ok (.aload_n 0, 1) := by decide +kernel
theorem d_Store_seek_10 : decode b_Store_seek 10 = .ok (.getfield 63, 3) := by decide +kernel
theorem d_Store_seek_13 : decode b_Store_seek 13 = .ok (.iload_n 1, 1) := by decide +kernel
theorem d_Store_seek_14 : decode b_Store_seek 14 = .ok (.aload_n 0, 1) := by decide +kernel
theorem d_Store_seek_15 : decode b_Store_seek 15 = .ok (.getfield 12, 3) := by decide +kernel
theorem d_Store_seek_18 : decode b_Store_seek 18 = .ok (.iload_n 2, 1) := by decide +kernel
theorem d_Store_seek_19 : decode b_Store_seek 19 = .ok (.invokevirtual 160, 3) := by decide +kernel
theorem d_Store_seek_22 : decode b_Store_seek 22 = .ok (.istore_n 3, 1) := by decide +kernel
theorem d_Store_seek_23 : decode b_Store_seek 23 = .ok (.aload_n 0, 1) := by decide +kernel
theorem d_Store_seek_24 : decode b_Store_seek 24 = .ok (.iload_n 3, 1) := by decide +kernel
theorem d_Store_seek_25 : decode b_Store_seek 25 = .ok (.ifCond .eq 7, 3) := by decide +kernel
theorem d_Store_seek_28 : decode b_Store_seek 28 = .ok (.iconst 1, 1) := by decide +kernel
theorem d_Store_seek_29 : decode b_Store_seek 29 = .ok (.goto 4, 3) := by decide +kernel
theorem d_Store_seek_32 : decode b_Store_seek 32 = .ok (.iconst 0, 1) := by decide +kernel
theorem d_Store_seek_33 : decode b_Store_seek 33 = .ok (.putfield 76, 3) := by decide +kernel
theorem d_Store_seek_36 : decode b_Store_seek 36 = .ok (.aload_n 0, 1) := by decide +kernel
theorem d_Store_seek_37 : decode b_Store_seek 37 = .ok (.getfield 19, 3) := by decide +kernel
theorem d_Store_seek_40 : decode b_Store_seek 40 = .ok (.invokevirtual 164, 3) := by decide +kernel
theorem d_Store_seek_43 : decode b_Store_seek 43 = .ok (.aload_n 0, 1) := by decide +kernel
theorem d_Store_seek_44 : decode b_Store_seek 44 = .ok (.getfield 22, 3) := by decide +kernel
theorem d_Store_seek_47 : decode b_Store_seek 47 = .ok (.invokevirtual 164, 3) := by decide +kernel
theorem d_Store_seek_50 : decode b_Store_seek 50 = .ok (.aload_n 0, 1) := by decide +kernel
theorem d_Store_seek_51 : decode b_Store_seek 51 = .ok (.getfield 76, 3) := by decide +kernel
theorem d_Store_seek_54 : decode b_Store_seek 54 = .ok (.ifCond .eq 19, 3) := by decide +kernel
theorem d_Store_seek_57 : decode b_Store_seek 57 = .ok (.aload_n 0, 1) := by decide +kernel
theorem d_Store_seek_58 : decode b_Store_seek 58 = .ok (.getfield 54, 3) := by decide +kernel
theorem d_Store_seek_61 : decode b_Store_seek 61 = .ok (.iload_n 3, 1) := by decide +kernel
theorem d_Store_seek_62 : decode b_Store_seek 62 = .ok (.aload_n 0, 1) := by decide +kernel
theorem d_Store_seek_63 : decode b_Store_seek 63 = .ok (.getfield 19, 3) := by decide +kernel
theorem d_Store_seek_66 : decode b_Store_seek 66 = .ok (.aload_n 0, 1) := by decide +kernel
theorem d_Store_seek_67 : decode b_Store_seek 67 = .ok (.getfield 22, 3) := by decide +kernel
theorem d_Store_seek_70 : decode b_Store_seek 70 = .ok (.invokevirtual 167, 3) := by decide +kernel
theorem d_Store_seek_73 : decode b_Store_seek 73 = .ok (.aload_n 0, 1) := by decide +kernel
theorem d_Store_seek_74 : decode b_Store_seek 74 = .ok (.getfield 76, 3) := by decide +kernel
theorem d_Store_seek_77 : decode b_Store_seek 77 = .ok (.ireturn, 1) := by decide +kernel
theorem d_Store_take_0 : decode b_Store_take 0 = .ok (.aload_n 0, 1) := by decide +kernel
theorem d_Store_take_1 : decode b_Store_take 1 = .ok (.invokevirtual 170, 3) := by decide +kernel
theorem d_Store_take_4 : decode b_Store_take 4 = .ok (.aload_n 0, 1) := by decide +kernel
theorem d_Store_take_5 : decode b_Store_take 5 = .ok (.getfield 12, 3) := by decide +kernel
theorem d_Store_take_8 : decode b_Store_take 8 = .ok (.aload_n 0, 1) := by decide +kernel
theorem d_Store_take_9 : decode b_Store_take 9 = .ok (.getfield 19, 3) := by decide +kernel
theorem d_Store_take_12 : decode b_Store_take 12 = .ok (.invokevirtual 173, 3) := by decide +kernel
theorem d_Store_take_15 : decode b_Store_take 15 = .ok (.aload_n 0, 1) := by decide +kernel
theorem d_Store_take_16 : decode b_Store_take 16 = .ok (.getfield 12, 3) := by decide +kernel
theorem d_Store_take_19 : decode b_Store_take 19 = .ok (.invokevirtual 105, 3) := by decide +kernel
theorem d_Store_take_22 : decode b_Store_take 22 = .ok (.ireturn, 1) := by decide +kernel
theorem d_Store_found_0 : decode b_Store_found 0 = .ok (.iload_n 1, 1) := by decide +kernel
theorem d_Store_found_1 : decode b_Store_found 1 = .ok (.ifCond .eq 18, 3) := by decide +kernel
theorem d_Store_found_4 : decode b_Store_found 4 = .ok (.iload_n 1, 1) := by decide +kernel
theorem d_Store_found_5 : decode b_Store_found 5 = .ok (.iconst 1, 1) := by decide +kernel
theorem d_Store_found_6 : decode b_Store_found 6 = .ok (.if_icmp .eq 13, 3) := by decide +kernel
theorem d_Store_found_9 : decode b_Store_found 9 = .ok (.new 90, 3) := by decide +kernel
theorem d_Store_found_12 : decode b_Store_found 12 = .ok (.dup, 1) := by decide +kernel
theorem d_Store_found_13 : decode b_Store_found 13 = .ok (.ldc 177, 2) := by decide +kernel
theorem d_Store_found_15 : decode b_Store_found 15 = .ok (.invokespecial 94, 3) := by decide +kernel
theorem d_Store_found_18 : decode b_Store_found 18 = .ok (.athrow, 1) := by decide +kernel
theorem d_Store_found_19 : decode b_Store_found 19 = .ok (.aload_n 0, 1) := by decide +kernel
theorem d_Store_found_20 : decode b_Store_found 20 = .ok (.invokevirtual 170, 3) := by decide +kernel
theorem d_Store_found_23 : decode b_Store_found 23 = .ok (.iload_n 1, 1) := by decide +kernel
theorem d_Store_found_24 : decode b_Store_found 24 = .ok (.ifCond .ne 14, 3) := by decide +kernel
theorem d_Store_found_27 : decode b_Store_found 27 = .ok (.aload_n 0, 1) := by decide +kernel
theorem d_Store_found_28 : decode b_Store_found 28 = .ok (.getfield 19, 3) := by decide +kernel
theorem d_Store_found_31 : decode b_Store_found 31 = .ok (.iload_n 2, 1) := by decide +kernel
theorem d_Store_found_32 : decode b_Store_found 32 = .ok (.invokevirtual 179, 3) := by decide +kernel
theorem d_Store_found_35 : decode b_Store_found 35 = .ok (.goto 11, 3) := by decide +kernel
theorem d_Store_found_38 : decode b_Store_found 38 = .ok (.aload_n 0, 1) := by decide +kernel
theorem d_Store_found_39 : decode b_Store_found 39 = .ok (.getfield 22, 3) := by decide +kernel
theorem d_Store_found_42 : decode b_Store_found 42 = .ok (.iload_n 2, 1) := by decide +kernel
theorem d_Store_found_43 : decode b_Store_found 43 = .ok (.invokevirtual 179, 3) := by decide +kernel
theorem d_Store_found_46 : decode b_Store_found 46 = .ok (.lreturn, 1) := by decide +kernel
theorem d_Store_begin_0 : decode b_Store_begin 0 = .ok (.aload_n 0, 1) := by decide +kernel
theorem d_Store_begin_1 : decode b_Store_begin 1 = .ok (.invokevirtual 157, 3) := by decide +kernel
theorem d_Store_begin_4 : decode b_Store_begin 4 = .ok (.aload_n 0, 1) := by decide +kernel
theorem d_Store_begin_5 : decode b_Store_begin 5 = .ok (.getfield 83, 3) := by decide +kernel
theorem d_Store_begin_8 : decode b_Store_begin 8 = .ok (.ifCond .eq 13, 3) := by decide +kernel
theorem d_Store_begin_11 : decode b_Store_begin 11 = .ok (.new 115, 3) := by decide +kernel
theorem d_Store_begin_14 : decode b_Store_begin 14 = .ok (.dup, 1) := by decide +kernel
theorem d_Store_begin_15 : decode b_Store_begin 15 = .ok (.ldc 183, 2) := by decide +kernel
theorem d_Store_begin_17 : decode b_Store_begin 17 = .ok (.invokespecial 119, 3) := by decide +kernel
theorem d_Store_begin_20 : decode b_Store_begin 20 = .ok (.athrow, 1) := by decide +kernel
theorem d_Store_begin_21 : decode b_Store_begin 21 = .ok (.aload_n 0, 1) := by decide +kernel
theorem d_Store_begin_22 : decode b_Store_begin 22 = .ok (.iconst 1, 1) := by decide +kernel
theorem d_Store_begin_23 : decode b_Store_begin 23 = .ok (.putfield 83, 3) := by decide +kernel
theorem d_Store_begin_26 : decode b_Store_begin 26 = .ok (.return_, 1) := by decide +kernel
theorem d_Store_commit_0 : decode b_Store_commit 0 = .ok (.aload_n 0, 1) := by decide +kernel
theorem d_Store_commit_1 : decode b_Store_commit 1 = .ok (.invokevirtual 109, 3) := by decide +kernel
theorem d_Store_commit_4 : decode b_Store_commit 4 = .ok (.aload_n 0, 1) := by decide +kernel
theorem d_Store_commit_5 : decode b_Store_commit 5 = .ok (.getfield 28, 3) := by decide +kernel
theorem d_Store_commit_8 : decode b_Store_commit 8 = .ok (.aload_n 0, 1) := by decide +kernel
theorem d_Store_commit_9 : decode b_Store_commit 9 = .ok (.getfield 35, 3) := by decide +kernel
theorem d_Store_commit_12 : decode b_Store_commit 12 = .ok (.invokevirtual 185, 3) := by decide +kernel
theorem d_Store_commit_15 : decode b_Store_commit 15 = .ok (.istore_n 1, 1) := by decide +kernel
theorem d_Store_commit_16 : decode b_Store_commit 16 = .ok (.aload_n 0, 1) := by decide +kernel
theorem d_Store_commit_17 : decode b_Store_commit 17 = .ok (.invokevirtual 189, 3) := by decide +kernel
theorem d_Store_commit_20 : decode b_Store_commit 20 = .ok (.iload_n 1, 1) := by decide +kernel
theorem d_Store_commit_21 : decode b_Store_commit 21 = .ok (.ifCond .ne 17, 3) := by decide +kernel
theorem d_Store_commit_24 : decode b_Store_commit 24 = .ok (.aload_n 0, 1) := by decide +kernel
theorem d_Store_commit_25 : decode b_Store_commit 25 = .ok (.invokevirtual 192, 3) := by decide +kernel
theorem d_Store_commit_28 : decode b_Store_commit 28 = .ok (.new 195, 3) := by decide +kernel
theorem d_Store_commit_31 : decode b_Store_commit 31 = .ok (.dup, 1) := by decide +kernel
theorem d_Store_commit_32 : decode b_Store_commit 32 = .ok (.ldc 197, 2) := by decide +kernel
theorem d_Store_commit_34 : decode b_Store_commit 34 = .ok (.invokespecial 199, 3) := by decide +kernel
theorem d_Store_commit_37 : decode b_Store_commit 37 = .ok (.athrow, 1) := by decide +kernel
theorem d_Store_commit_38 : decode b_Store_commit 38 = .ok (.aload_n 0, 1) := by decide +kernel
theorem d_Store_commit_39 : decode b_Store_commit 39 = .ok (.getfield 35, 3) := by decide +kernel
theorem d_Store_commit_42 : decode b_Store_commit 42 = .ok (.invokevirtual 200, 3) := by decide +kernel
theorem d_Store_commit_45 : decode b_Store_commit 45 = .ok (.return_, 1) := by decide +kernel
theorem d_Store_rollback_0 : decode b_Store_rollback 0 = .ok (.aload_n 0, 1) := by decide +kernel
theorem d_Store_rollback_1 : decode b_Store_rollback 1 = .ok (.invokevirtual 109, 3) := by decide +kernel
theorem d_Store_rollback_4 : decode b_Store_rollback 4 = .ok (.aload_n 0, 1) := by decide +kernel
theorem d_Store_rollback_5 : decode b_Store_rollback 5 = .ok (.getfield 28, 3) := by decide +kernel
theorem d_Store_rollback_8 : decode b_Store_rollback 8 = .ok (.aload_n 0, 1) := by decide +kernel
theorem d_Store_rollback_9 : decode b_Store_rollback 9 = .ok (.getfield 35, 3) := by decide +kernel
theorem d_Store_rollback_12 : decode b_Store_rollback 12 = .ok (.invokevirtual 203, 3) := by decide +kernel
theorem d_Store_rollback_15 : decode b_Store_rollback 15 = .ok (.aload_n 0, 1) := by decide +kernel
theorem d_Store_rollback_16 : decode b_Store_rollback 16 = .ok (.invokevirtual 189, 3) := by decide +kernel
theorem d_Store_rollback_19 : decode b_Store_rollback 19 = .ok (.return_, 1) := by decide +kernel
theorem d_Store_mark_0 : decode b_Store_mark 0 = .ok (.aload_n 0, 1) := by decide +kernel
theorem d_Store_mark_1 : decode b_Store_mark 1 = .ok (.invokevirtual 109, 3) := by decide +kernel
theorem d_Store_mark_4 : decode b_Store_mark 4 = .ok (.aload_n 0, 1) := by decide +kernel
theorem d_Store_mark_5 : decode b_Store_mark 5 = .ok (.getfield 42, 3) := by decide +kernel
theorem d_Store_mark_8 : decode b_Store_mark 8 = .ok (.invokevirtual 206, 3) := by decide +kernel
theorem d_Store_mark_11 : decode b_Store_mark 11 = .ok (.iconst 5, 1) := by decide +kernel
theorem d_Store_mark_12 : decode b_Store_mark 12 = .ok (.if_icmp .ne 13, 3) := by decide +kernel
theorem d_Store_mark_15 : decode b_Store_mark 15 = .ok (.new 115, 3) := by decide +kernel
theorem d_Store_mark_18 : decode b_Store_mark 18 = .ok (.dup, 1) := by decide +kernel
theorem d_Store_mark_19 : decode b_Store_mark 19 = .ok (.ldc 209, 2) := by decide +kernel
theorem d_Store_mark_21 : decode b_Store_mark 21 = .ok (.invokespecial 119, 3) := by decide +kernel
theorem d_Store_mark_24 : decode b_Store_mark 24 = .ok (.athrow, 1) := by decide +kernel
theorem d_Store_mark_25 : decode b_Store_mark 25 = .ok (.aload_n 0, 1) := by decide +kernel
theorem d_Store_mark_26 : decode b_Store_mark 26 = .ok (.getfield 42, 3) := by decide +kernel
theorem d_Store_mark_29 : decode b_Store_mark 29 = .ok (.aload_n 0, 1) := by decide +kernel
theorem d_Store_mark_30 : decode b_Store_mark 30 = .ok (.getfield 35, 3) := by decide +kernel
theorem d_Store_mark_33 : decode b_Store_mark 33 = .ok (.invokevirtual 211, 3) := by decide +kernel
theorem d_Store_mark_36 : decode b_Store_mark 36 = .ok (.aload_n 0, 1) := by decide +kernel
theorem d_Store_mark_37 : decode b_Store_mark 37 = .ok (.getfield 42, 3) := by decide +kernel
theorem d_Store_mark_40 : decode b_Store_mark 40 = .ok (.invokevirtual 206, 3) := by decide +kernel
theorem d_Store_mark_43 : decode b_Store_mark 43 = .ok (.ireturn, 1) := by decide +kernel
theorem d_Store_back_0 : decode b_Store_back 0 = .ok (.aload_n 0, 1) := by decide +kernel
theorem d_Store_back_1 : decode b_Store_back 1 = .ok (.invokevirtual 109, 3) := by decide +kernel
theorem d_Store_back_4 : decode b_Store_back 4 = .ok (.aload_n 0, 1) := by decide +kernel
theorem d_Store_back_5 : decode b_Store_back 5 = .ok (.iload_n 1, 1) := by decide +kernel
theorem d_Store_back_6 : decode b_Store_back 6 = .ok (.invokevirtual 214, 3) := by decide +kernel
theorem d_Store_back_9 : decode b_Store_back 9 = .ok (.aload_n 0, 1) := by decide +kernel
theorem d_Store_back_10 : decode b_Store_back 10 = .ok (.getfield 42, 3) := by decide +kernel
theorem d_Store_back_13 : decode b_Store_back 13 = .ok (.iload_n 1, 1) := by decide +kernel
theorem d_Store_back_14 : decode b_Store_back 14 = .ok (.aload_n 0, 1) := by decide +kernel
theorem d_Store_back_15 : decode b_Store_back 15 = .ok (.getfield 35, 3) := by decide +kernel
theorem d_Store_back_18 : decode b_Store_back 18 = .ok (.invokevirtual 217, 3) := by decide +kernel
theorem d_Store_back_21 : decode b_Store_back 21 = .ok (.aload_n 0, 1) := by decide +kernel
theorem d_Store_back_22 : decode b_Store_back 22 = .ok (.getfield 42, 3) := by decide +kernel
theorem d_Store_back_25 : decode b_Store_back 25 = .ok (.iload_n 1, 1) := by decide +kernel
theorem d_Store_back_26 : decode b_Store_back 26 = .ok (.invokevirtual 221, 3) := by decide +kernel
theorem d_Store_back_29 : decode b_Store_back 29 = .ok (.return_, 1) := by decide +kernel
theorem d_Store_keep_0 : decode b_Store_keep 0 = .ok (.aload_n 0, 1) := by decide +kernel
theorem d_Store_keep_1 : decode b_Store_keep 1 = .ok (.invokevirtual 109, 3) := by decide +kernel
theorem d_Store_keep_4 : decode b_Store_keep 4 = .ok (.aload_n 0, 1) := by decide +kernel
theorem d_Store_keep_5 : decode b_Store_keep 5 = .ok (.iload_n 1, 1) := by decide +kernel
theorem d_Store_keep_6 : decode b_Store_keep 6 = .ok (.invokevirtual 214, 3) := by decide +kernel
theorem d_Store_keep_9 : decode b_Store_keep 9 = .ok (.aload_n 0, 1) := by decide +kernel
theorem d_Store_keep_10 : decode b_Store_keep 10 = .ok (.getfield 42, 3) := by decide +kernel
theorem d_Store_keep_13 : decode b_Store_keep 13 = .ok (.iload_n 1, 1) := by decide +kernel
theorem d_Store_keep_14 : decode b_Store_keep 14 = .ok (.iconst 1, 1) := by decide +kernel
theorem d_Store_keep_15 : decode b_Store_keep 15 = .ok (.isub, 1) := by decide +kernel
theorem d_Store_keep_16 : decode b_Store_keep 16 = .ok (.invokevirtual 221, 3) := by decide +kernel
theorem d_Store_keep_19 : decode b_Store_keep 19 = .ok (.return_, 1) := by decide +kernel
theorem d_Store_power_0 : decode b_Store_power 0 = .ok (.iload_n 1, 1) := by decide +kernel
theorem d_Store_power_1 : decode b_Store_power 1 = .ok (.ifCond .lt 30, 3) := by decide +kernel
theorem d_Store_power_4 : decode b_Store_power 4 = .ok (.iload_n 1, 1) := by decide +kernel
theorem d_Store_power_5 : decode b_Store_power 5 = .ok (.iconst 4, 1) := by decide +kernel
theorem d_Store_power_6 : decode b_Store_power 6 = .ok (.if_icmp .gt 25, 3) := by decide +kernel
theorem d_Store_power_9 : decode b_Store_power 9 = .ok (.iload_n 2, 1) := by decide +kernel
theorem d_Store_power_10 : decode b_Store_power 10 = .ok (.ifCond .lt 21, 3) := by decide +kernel
theorem d_Store_power_13 : decode b_Store_power 13 = .ok (.iload_n 2, 1) := by decide +kernel
theorem d_Store_power_14 : decode b_Store_power 14 = .ok (.sipush 1000, 3) := by decide +kernel
theorem d_Store_power_17 : decode b_Store_power 17 = .ok (.if_icmp .gt 14, 3) := by decide +kernel
theorem d_Store_power_20 : decode b_Store_power 20 = .ok (.iload_n 3, 1) := by decide +kernel
theorem d_Store_power_21 : decode b_Store_power 21 = .ok (.ifCond .lt 10, 3) := by decide +kernel
theorem d_Store_power_24 : decode b_Store_power 24 = .ok (.iload_n 3, 1) := by decide +kernel
theorem d_Store_power_25 : decode b_Store_power 25 = .ok (.sipush 300, 3) := by decide +kernel
theorem d_Store_power_28 : decode b_Store_power 28 = .ok (.if_icmp .le 13, 3) := by decide +kernel
theorem d_Store_power_31 : decode b_Store_power 31 = .ok (.new 90, 3) := by decide +kernel
theorem d_Store_power_34 : decode b_Store_power 34 = .ok (.dup, 1) := by decide +kernel
theorem d_Store_power_35 : decode b_Store_power 35 = .ok (.ldc 224, 2) := by decide +kernel
theorem d_Store_power_37 : decode b_Store_power 37 = .ok (.invokespecial 94, 3) := by decide +kernel
theorem d_Store_power_40 : decode b_Store_power 40 = .ok (.athrow, 1) := by decide +kernel
theorem d_Store_power_41 : decode b_Store_power 41 = .ok (.aload_n 0, 1) := by decide +kernel
theorem d_Store_power_42 : decode b_Store_power 42 = .ok (.getfield 28, 3) := by decide +kernel
theorem d_Store_power_45 : decode b_Store_power 45 = .ok (.iload_n 1, 1) := by decide +kernel
theorem d_Store_power_46 : decode b_Store_power 46 = .ok (.iload_n 2, 1) := by decide +kernel
theorem d_Store_power_47 : decode b_Store_power 47 = .ok (.iload_n 3, 1) := by decide +kernel
theorem d_Store_power_48 : decode b_Store_power 48 = .ok (.invokevirtual 226, 3) := by decide +kernel
theorem d_Store_power_51 : decode b_Store_power 51 = .ok (.return_, 1) := by decide +kernel
theorem d_Store_reopen_0 : decode b_Store_reopen 0 = .ok (.aload_n 0, 1) := by decide +kernel
theorem d_Store_reopen_1 : decode b_Store_reopen 1 = .ok (.invokevirtual 192, 3) := by decide +kernel
theorem d_Store_reopen_4 : decode b_Store_reopen 4 = .ok (.aload_n 0, 1) := by decide +kernel
theorem d_Store_reopen_5 : decode b_Store_reopen 5 = .ok (.getfield 28, 3) := by decide +kernel
theorem d_Store_reopen_8 : decode b_Store_reopen 8 = .ok (.invokevirtual 230, 3) := by decide +kernel
theorem d_Store_reopen_11 : decode b_Store_reopen 11 = .ok (.ifCond .ne 13, 3) := by decide +kernel
theorem d_Store_reopen_14 : decode b_Store_reopen 14 = .ok (.new 195, 3) := by decide +kernel
theorem d_Store_reopen_17 : decode b_Store_reopen 17 = .ok (.dup, 1) := by decide +kernel
theorem d_Store_reopen_18 : decode b_Store_reopen 18 = .ok (.ldc 197, 2) := by decide +kernel
theorem d_Store_reopen_20 : decode b_Store_reopen 20 = .ok (.invokespecial 199, 3) := by decide +kernel
theorem d_Store_reopen_23 : decode b_Store_reopen 23 = .ok (.athrow, 1) := by decide +kernel
theorem d_Store_reopen_24 : decode b_Store_reopen 24 = .ok (.aload_n 0, 1) := by decide +kernel
theorem d_Store_reopen_25 : decode b_Store_reopen 25 = .ok (.getfield 28, 3) := by decide +kernel
theorem d_Store_reopen_28 : decode b_Store_reopen 28 = .ok (.aload_n 0, 1) := by decide +kernel
theorem d_Store_reopen_29 : decode b_Store_reopen 29 = .ok (.getfield 35, 3) := by decide +kernel
theorem d_Store_reopen_32 : decode b_Store_reopen 32 = .ok (.invokevirtual 234, 3) := by decide +kernel
theorem d_Store_reopen_35 : decode b_Store_reopen 35 = .ok (.aload_n 0, 1) := by decide +kernel
theorem d_Store_reopen_36 : decode b_Store_reopen 36 = .ok (.iconst 1, 1) := by decide +kernel
theorem d_Store_reopen_37 : decode b_Store_reopen 37 = .ok (.putfield 80, 3) := by decide +kernel
theorem d_Store_reopen_40 : decode b_Store_reopen 40 = .ok (.aload_n 0, 1) := by decide +kernel
theorem d_Store_reopen_41 : decode b_Store_reopen 41 = .ok (.getfield 35, 3) := by decide +kernel
theorem d_Store_reopen_44 : decode b_Store_reopen 44 = .ok (.bipush 6, 2) := by decide +kernel
theorem d_Store_reopen_46 : decode b_Store_reopen 46 = .ok (.invokevirtual 140, 3) := by decide +kernel
theorem d_Store_reopen_49 : decode b_Store_reopen 49 = .ok (.ireturn, 1) := by decide +kernel
theorem d_Store_told_0 : decode b_Store_told 0 = .ok (.iload_n 1, 1) := by decide +kernel
theorem d_Store_told_1 : decode b_Store_told 1 = .ok (.ifCond .lt 15, 3) := by decide +kernel
theorem d_Store_told_4 : decode b_Store_told 4 = .ok (.iload_n 1, 1) := by decide +kernel
theorem d_Store_told_5 : decode b_Store_told 5 = .ok (.bipush 9, 2) := by decide +kernel
theorem d_Store_told_7 : decode b_Store_told 7 = .ok (.if_icmp .eq 9, 3) := by decide +kernel
theorem d_Store_told_10 : decode b_Store_told 10 = .ok (.iload_n 1, 1) := by decide +kernel
theorem d_Store_told_11 : decode b_Store_told 11 = .ok (.bipush 74, 2) := by decide +kernel
theorem d_Store_told_13 : decode b_Store_told 13 = .ok (.if_icmp .lt 13, 3) := by decide +kernel
theorem d_Store_told_16 : decode b_Store_told 16 = .ok (.new 90, 3) := by decide +kernel
theorem d_Store_told_19 : decode b_Store_told 19 = .ok (.dup, 1) := by decide +kernel
theorem d_Store_told_20 : decode b_Store_told 20 = .ok (.ldc 237, 2) := by decide +kernel
theorem d_Store_told_22 : decode b_Store_told 22 = .ok (.invokespecial 94, 3) := by decide +kernel
theorem d_Store_told_25 : decode b_Store_told 25 = .ok (.athrow, 1) := by decide +kernel
theorem d_Store_told_26 : decode b_Store_told 26 = .ok (.aload_n 0, 1) := by decide +kernel
theorem d_Store_told_27 : decode b_Store_told 27 = .ok (.getfield 80, 3) := by decide +kernel
theorem d_Store_told_30 : decode b_Store_told 30 = .ok (.ifCond .ne 5, 3) := by decide +kernel
theorem d_Store_told_33 : decode b_Store_told 33 = .ok (.iconst 0, 1) := by decide +kernel
theorem d_Store_told_34 : decode b_Store_told 34 = .ok (.ireturn, 1) := by decide +kernel
theorem d_Store_told_35 : decode b_Store_told 35 = .ok (.iload_n 1, 1) := by decide +kernel
theorem d_Store_told_36 : decode b_Store_told 36 = .ok (.tableswitch 127 0 8 #[52, 54, 67, 75, 85, 95, 103, 111, 119], 52) := by decide +kernel
theorem d_Store_told_88 : decode b_Store_told 88 = .ok (.iconst 1, 1) := by decide +kernel
theorem d_Store_told_89 : decode b_Store_told 89 = .ok (.ireturn, 1) := by decide +kernel
theorem d_Store_told_90 : decode b_Store_told 90 = .ok (.aload_n 0, 1) := by decide +kernel
theorem d_Store_told_91 : decode b_Store_told 91 = .ok (.getfield 83, 3) := by decide +kernel
theorem d_Store_told_94 : decode b_Store_told 94 = .ok (.ifCond .eq 7, 3) := by decide +kernel
theorem d_Store_told_97 : decode b_Store_told 97 = .ok (.iconst 1, 1) := by decide +kernel
theorem d_Store_told_98 : decode b_Store_told 98 = .ok (.goto 4, 3) := by decide +kernel
theorem d_Store_told_101 : decode b_Store_told 101 = .ok (.iconst 0, 1) := by decide +kernel
theorem d_Store_told_102 : decode b_Store_told 102 = .ok (.ireturn, 1) := by decide +kernel
theorem d_Store_told_103 : decode b_Store_told 103 = .ok (.aload_n 0, 1) := by decide +kernel
theorem d_Store_told_104 : decode b_Store_told 104 = .ok (.getfield 42, 3) := by decide +kernel
theorem d_Store_told_107 : decode b_Store_told 107 = .ok (.invokevirtual 206, 3) := by decide +kernel
theorem d_Store_told_110 : decode b_Store_told 110 = .ok (.ireturn, 1) := by decide +kernel
theorem d_Store_told_111 : decode b_Store_told 111 = .ok (.aload_n 0, 1) := by decide +kernel
theorem d_Store_told_112 : decode b_Store_told 112 = .ok (.getfield 35, 3) := by decide +kernel
theorem d_Store_told_115 : decode b_Store_told 115 = .ok (.bipush 6, 2) := by decide +kernel
theorem d_Store_told_117 : decode b_Store_told 117 = .ok (.invokevirtual 140, 3) := by decide +kernel
theorem d_Store_told_120 : decode b_Store_told 120 = .ok (.ireturn, 1) := by decide +kernel
theorem d_Store_told_121 : decode b_Store_told 121 = .ok (.aload_n 0, 1) := by decide +kernel
theorem d_Store_told_122 : decode b_Store_told 122 = .ok (.getfield 35, 3) := by decide +kernel
theorem d_Store_told_125 : decode b_Store_told 125 = .ok (.bipush 8, 2) := by decide +kernel
theorem d_Store_told_127 : decode b_Store_told 127 = .ok (.invokevirtual 140, 3) := by decide +kernel
theorem d_Store_told_130 : decode b_Store_told 130 = .ok (.ireturn, 1) := by decide +kernel
theorem d_Store_told_131 : decode b_Store_told 131 = .ok (.aload_n 0, 1) := by decide +kernel
theorem d_Store_told_132 : decode b_Store_told 132 = .ok (.getfield 12, 3) := by decide +kernel
theorem d_Store_told_135 : decode b_Store_told 135 = .ok (.invokevirtual 105, 3) := by decide +kernel
theorem d_Store_told_138 : decode b_Store_told 138 = .ok (.ireturn, 1) := by decide +kernel
theorem d_Store_told_139 : decode b_Store_told 139 = .ok (.aload_n 0, 1) := by decide +kernel
theorem d_Store_told_140 : decode b_Store_told 140 = .ok (.getfield 16, 3) := by decide +kernel
theorem d_Store_told_143 : decode b_Store_told 143 = .ok (.invokevirtual 105, 3) := by decide +kernel
theorem d_Store_told_146 : decode b_Store_told 146 = .ok (.ireturn, 1) := by decide +kernel
theorem d_Store_told_147 : decode b_Store_told 147 = .ok (.aload_n 0, 1) := by decide +kernel
theorem d_Store_told_148 : decode b_Store_told 148 = .ok (.getfield 19, 3) := by decide +kernel
theorem d_Store_told_151 : decode b_Store_told 151 = .ok (.invokevirtual 105, 3) := by decide +kernel
theorem d_Store_told_154 : decode b_Store_told 154 = .ok (.ireturn, 1) := by decide +kernel
theorem d_Store_told_155 : decode b_Store_told 155 = .ok (.aload_n 0, 1) := by decide +kernel
theorem d_Store_told_156 : decode b_Store_told 156 = .ok (.getfield 22, 3) := by decide +kernel
theorem d_Store_told_159 : decode b_Store_told 159 = .ok (.invokevirtual 105, 3) := by decide +kernel
theorem d_Store_told_162 : decode b_Store_told 162 = .ok (.ireturn, 1) := by decide +kernel
theorem d_Store_told_163 : decode b_Store_told 163 = .ok (.aload_n 0, 1) := by decide +kernel
theorem d_Store_told_164 : decode b_Store_told 164 = .ok (.getfield 63, 3) := by decide +kernel
theorem d_Store_told_167 : decode b_Store_told 167 = .ok (.iload_n 1, 1) := by decide +kernel
theorem d_Store_told_168 : decode b_Store_told 168 = .ok (.bipush 10, 2) := by decide +kernel
theorem d_Store_told_170 : decode b_Store_told 170 = .ok (.isub, 1) := by decide +kernel
theorem d_Store_told_171 : decode b_Store_told 171 = .ok (.invokevirtual 239, 3) := by decide +kernel
theorem d_Store_told_174 : decode b_Store_told 174 = .ok (.ifCond .eq 17, 3) := by decide +kernel
theorem d_Store_told_177 : decode b_Store_told 177 = .ok (.aload_n 0, 1) := by decide +kernel
theorem d_Store_told_178 : decode b_Store_told 178 = .ok (.getfield 63, 3) := by decide +kernel
theorem d_Store_told_181 : decode b_Store_told 181 = .ok (.iload_n 1, 1) := by decide +kernel
theorem d_Store_told_182 : decode b_Store_told 182 = .ok (.bipush 10, 2) := by decide +kernel
theorem d_Store_told_184 : decode b_Store_told 184 = .ok (.isub, 1) := by decide +kernel
theorem d_Store_told_185 : decode b_Store_told 185 = .ok (.invokevirtual 243, 3) := by decide +kernel
theorem d_Store_told_188 : decode b_Store_told 188 = .ok (.goto 4, 3) := by decide +kernel
theorem d_Store_told_191 : decode b_Store_told 191 = .ok (.iconst (-1), 1) := by decide +kernel
theorem d_Store_told_192 : decode b_Store_told 192 = .ok (.ireturn, 1) := by decide +kernel
theorem d_Store_check_0 : decode b_Store_check 0 = .ok (.aload_n 0, 1) := by decide +kernel
theorem d_Store_check_1 : decode b_Store_check 1 = .ok (.invokevirtual 157, 3) := by decide +kernel
theorem d_Store_check_4 : decode b_Store_check 4 = .ok (.aload_n 0, 1) := by decide +kernel
theorem d_Store_check_5 : decode b_Store_check 5 = .ok (.getfield 72, 3) := by decide +kernel
theorem d_Store_check_8 : decode b_Store_check 8 = .ok (.invokevirtual 246, 3) := by decide +kernel
theorem d_Store_check_11 : decode b_Store_check 11 = .ok (.ireturn, 1) := by decide +kernel
theorem d_Store_appendWord_0 : decode b_Store_appendWord 0 = .ok (.iload 4, 2) := by decide +kernel
theorem d_Store_appendWord_2 : decode b_Store_appendWord 2 = .ok (.ifCond .lt 10, 3) := by decide +kernel
theorem d_Store_appendWord_5 : decode b_Store_appendWord 5 = .ok (.iload 4, 2) := by decide +kernel
theorem d_Store_appendWord_7 : decode b_Store_appendWord 7 = .ok (.bipush 8, 2) := by decide +kernel
theorem d_Store_appendWord_9 : decode b_Store_appendWord 9 = .ok (.if_icmp .le 13, 3) := by decide +kernel
theorem d_Store_appendWord_12 : decode b_Store_appendWord 12 = .ok (.new 90, 3) := by decide +kernel
theorem d_Store_appendWord_15 : decode b_Store_appendWord 15 = .ok (.dup, 1) := by decide +kernel
theorem d_Store_appendWord_16 : decode b_Store_appendWord 16 = .ok (.ldc 249, 2) := by decide +kernel
theorem d_Store_appendWord_18 : decode b_Store_appendWord 18 = .ok (.invokespecial 94, 3) := by decide +kernel
theorem d_Store_appendWord_21 : decode b_Store_appendWord 21 = .ok (.athrow, 1) := by decide +kernel
theorem d_Store_appendWord_22 : decode b_Store_appendWord 22 = .ok (.aload_n 0, 1) := by decide +kernel
theorem d_Store_appendWord_23 : decode b_Store_appendWord 23 = .ok (.aload_n 1, 1) := by decide +kernel
theorem d_Store_appendWord_24 : decode b_Store_appendWord 24 = .ok (.iload 4, 2) := by decide +kernel
theorem d_Store_appendWord_26 : decode b_Store_appendWord 26 = .ok (.invokevirtual 97, 3) := by decide +kernel
theorem d_Store_appendWord_29 : decode b_Store_appendWord 29 = .ok (.iload 4, 2) := by decide +kernel
theorem d_Store_appendWord_31 : decode b_Store_appendWord 31 = .ok (.ifCond .ne 10, 3) := by decide +kernel
theorem d_Store_appendWord_34 : decode b_Store_appendWord 34 = .ok (.aload_n 1, 1) := by decide +kernel
theorem d_Store_appendWord_35 : decode b_Store_appendWord 35 = .ok (.invokevirtual 164, 3) := by decide +kernel
theorem d_Store_appendWord_38 : decode b_Store_appendWord 38 = .ok (.goto 10, 3) := by decide +kernel
theorem d_Store_appendWord_41 : decode b_Store_appendWord 41 = .ok (.aload_n 1, 1) := by decide +kernel
theorem d_Store_appendWord_42 : decode b_Store_appendWord 42 = .ok (.lload_n 2, 1) := by decide +kernel
theorem d_Store_appendWord_43 : decode b_Store_appendWord 43 = .ok (.iload 4, 2) := by decide +kernel
theorem d_Store_appendWord_45 : decode b_Store_appendWord 45 = .ok (.invokevirtual 251, 3) := by decide +kernel
theorem d_Store_appendWord_48 : decode b_Store_appendWord 48 = .ok (.aload_n 1, 1) := by decide +kernel
theorem d_Store_appendWord_49 : decode b_Store_appendWord 49 = .ok (.invokevirtual 105, 3) := by decide +kernel
theorem d_Store_appendWord_52 : decode b_Store_appendWord 52 = .ok (.ireturn, 1) := by decide +kernel
theorem d_Store_demandOn_0 : decode b_Store_demandOn 0 = .ok (.aload_n 0, 1) := by decide +kernel
theorem d_Store_demandOn_1 : decode b_Store_demandOn 1 = .ok (.getfield 80, 3) := by decide +kernel
theorem d_Store_demandOn_4 : decode b_Store_demandOn 4 = .ok (.ifCond .ne 13, 3) := by decide +kernel
theorem d_Store_demandOn_7 : decode b_Store_demandOn 7 = .ok (.new 115, 3) := by decide +kernel
theorem d_Store_demandOn_10 : decode b_Store_demandOn 10 = .ok (.dup, 1) := by decide +kernel
theorem d_Store_demandOn_11 : decode b_Store_demandOn 11 = .ok (.ldc 255, 2) := by decide +kernel
theorem d_Store_demandOn_13 : decode b_Store_demandOn 13 = .ok (.invokespecial 119, 3) := by decide +kernel
theorem d_Store_demandOn_16 : decode b_Store_demandOn 16 = .ok (.athrow, 1) := by decide +kernel
theorem d_Store_demandOn_17 : decode b_Store_demandOn 17 = .ok (.return_, 1) := by decide +kernel
theorem d_Store_demandOpen_0 : decode b_Store_demandOpen 0 = .ok (.aload_n 0, 1) := by decide +kernel
theorem d_Store_demandOpen_1 : decode b_Store_demandOpen 1 = .ok (.getfield 80, 3) := by decide +kernel
theorem d_Store_demandOpen_4 : decode b_Store_demandOpen 4 = .ok (.ifCond .eq 10, 3) := by decide +kernel
theorem d_Store_demandOpen_7 : decode b_Store_demandOpen 7 = .ok (.aload_n 0, 1) := by decide +kernel
theorem d_Store_demandOpen_8 : decode b_Store_demandOpen 8 = .ok (.getfield 83, 3) := by decide +kernel
theorem d_Store_demandOpen_11 : decode b_Store_demandOpen 11 = .ok (.ifCond .ne 14, 3) := by decide +kernel
theorem d_Store_demandOpen_14 : decode b_Store_demandOpen 14 = .ok (.new 115, 3) := by decide +kernel
theorem d_Store_demandOpen_17 : decode b_Store_demandOpen 17 = .ok (.dup, 1) := by decide +kernel
theorem d_Store_demandOpen_18 : decode b_Store_demandOpen 18 = .ok (.ldc_w 257, 3) := by decide +kernel
theorem d_Store_demandOpen_21 : decode b_Store_demandOpen 21 = .ok (.invokespecial 119, 3) := by decide +kernel
theorem d_Store_demandOpen_24 : decode b_Store_demandOpen 24 = .ok (.athrow, 1) := by decide +kernel
theorem d_Store_demandOpen_25 : decode b_Store_demandOpen 25 = .ok (.return_, 1) := by decide +kernel
theorem d_Store_demandRoom_0 : decode b_Store_demandRoom 0 = .ok (.aload_n 0, 1) := by decide +kernel
theorem d_Store_demandRoom_1 : decode b_Store_demandRoom 1 = .ok (.getfield 80, 3) := by decide +kernel
theorem d_Store_demandRoom_4 : decode b_Store_demandRoom 4 = .ok (.ifCond .eq 11, 3) := by decide +kernel
theorem d_Store_demandRoom_7 : decode b_Store_demandRoom 7 = .ok (.aload_n 1, 1) := by decide +kernel
theorem d_Store_demandRoom_8 : decode b_Store_demandRoom 8 = .ok (.iload_n 2, 1) := by decide +kernel
theorem d_Store_demandRoom_9 : decode b_Store_demandRoom 9 = .ok (.invokevirtual 259, 3) := by decide +kernel
theorem d_Store_demandRoom_12 : decode b_Store_demandRoom 12 = .ok (.ifCond .ne 14, 3) := by decide +kernel
theorem d_Store_demandRoom_15 : decode b_Store_demandRoom 15 = .ok (.new 115, 3) := by decide +kernel
theorem d_Store_demandRoom_18 : decode b_Store_demandRoom 18 = .ok (.dup, 1) := by decide +kernel
theorem d_Store_demandRoom_19 : decode b_Store_demandRoom 19 = .ok (.ldc_w 262, 3) := by decide +kernel
theorem d_Store_demandRoom_22 : decode b_Store_demandRoom 22 = .ok (.invokespecial 119, 3) := by decide +kernel
theorem d_Store_demandRoom_25 : decode b_Store_demandRoom 25 = .ok (.athrow, 1) := by decide +kernel
theorem d_Store_demandRoom_26 : decode b_Store_demandRoom 26 = .ok (.return_, 1) := by decide +kernel
theorem d_Store_demandTree_0 : decode b_Store_demandTree 0 = .ok (.aload_n 0, 1) := by decide +kernel
theorem d_Store_demandTree_1 : decode b_Store_demandTree 1 = .ok (.getfield 63, 3) := by decide +kernel
theorem d_Store_demandTree_4 : decode b_Store_demandTree 4 = .ok (.iload_n 1, 1) := by decide +kernel
theorem d_Store_demandTree_5 : decode b_Store_demandTree 5 = .ok (.invokevirtual 239, 3) := by decide +kernel
theorem d_Store_demandTree_8 : decode b_Store_demandTree 8 = .ok (.ifCond .ne 14, 3) := by decide +kernel
theorem d_Store_demandTree_11 : decode b_Store_demandTree 11 = .ok (.new 264, 3) := by decide +kernel
theorem d_Store_demandTree_14 : decode b_Store_demandTree 14 = .ok (.dup, 1) := by decide +kernel
theorem d_Store_demandTree_15 : decode b_Store_demandTree 15 = .ok (.ldc_w 266, 3) := by decide +kernel
theorem d_Store_demandTree_18 : decode b_Store_demandTree 18 = .ok (.invokespecial 268, 3) := by decide +kernel
theorem d_Store_demandTree_21 : decode b_Store_demandTree 21 = .ok (.athrow, 1) := by decide +kernel
theorem d_Store_demandTree_22 : decode b_Store_demandTree 22 = .ok (.return_, 1) := by decide +kernel
theorem d_Store_demandFound_0 : decode b_Store_demandFound 0 = .ok (.aload_n 0, 1) := by decide +kernel
theorem d_Store_demandFound_1 : decode b_Store_demandFound 1 = .ok (.getfield 76, 3) := by decide +kernel
theorem d_Store_demandFound_4 : decode b_Store_demandFound 4 = .ok (.ifCond .ne 14, 3) := by decide +kernel
theorem d_Store_demandFound_7 : decode b_Store_demandFound 7 = .ok (.new 264, 3) := by decide +kernel
theorem d_Store_demandFound_10 : decode b_Store_demandFound 10 = .ok (.dup, 1) := by decide +kernel
theorem d_Store_demandFound_11 : decode b_Store_demandFound 11 = .ok (.ldc_w 269, 3) := by decide +kernel
theorem d_Store_demandFound_14 : decode b_Store_demandFound 14 = .ok (.invokespecial 268, 3) := by decide +kernel
theorem d_Store_demandFound_17 : decode b_Store_demandFound 17 = .ok (.athrow, 1) := by decide +kernel
theorem d_Store_demandFound_18 : decode b_Store_demandFound 18 = .ok (.return_, 1) := by decide +kernel
theorem d_Store_demandMark_0 : decode b_Store_demandMark 0 = .ok (.iload_n 1, 1) := by decide +kernel
theorem d_Store_demandMark_1 : decode b_Store_demandMark 1 = .ok (.iconst 1, 1) := by decide +kernel
theorem d_Store_demandMark_2 : decode b_Store_demandMark 2 = .ok (.if_icmp .lt 14, 3) := by decide +kernel
theorem d_Store_demandMark_5 : decode b_Store_demandMark 5 = .ok (.iload_n 1, 1) := by decide +kernel
theorem d_Store_demandMark_6 : decode b_Store_demandMark 6 = .ok (.aload_n 0, 1) := by decide +kernel
theorem d_Store_demandMark_7 : decode b_Store_demandMark 7 = .ok (.getfield 42, 3) := by decide +kernel
theorem d_Store_demandMark_10 : decode b_Store_demandMark 10 = .ok (.invokevirtual 206, 3) := by decide +kernel
theorem d_Store_demandMark_13 : decode b_Store_demandMark 13 = .ok (.if_icmp .le 14, 3) := by decide +kernel
theorem d_Store_demandMark_16 : decode b_Store_demandMark 16 = .ok (.new 271, 3) := by decide +kernel
theorem d_Store_demandMark_19 : decode b_Store_demandMark 19 = .ok (.dup, 1) := by decide +kernel
theorem d_Store_demandMark_20 : decode b_Store_demandMark 20 = .ok (.ldc_w 273, 3) := by decide +kernel
theorem d_Store_demandMark_23 : decode b_Store_demandMark 23 = .ok (.invokespecial 275, 3) := by decide +kernel
theorem d_Store_demandMark_26 : decode b_Store_demandMark 26 = .ok (.athrow, 1) := by decide +kernel
theorem d_Store_demandMark_27 : decode b_Store_demandMark 27 = .ok (.return_, 1) := by decide +kernel
theorem d_Store_endTransaction_0 : decode b_Store_endTransaction 0 = .ok (.aload_n 0, 1) := by decide +kernel
theorem d_Store_endTransaction_1 : decode b_Store_endTransaction 1 = .ok (.iconst 0, 1) := by decide +kernel
theorem d_Store_endTransaction_2 : decode b_Store_endTransaction 2 = .ok (.putfield 83, 3) := by decide +kernel
theorem d_Store_endTransaction_5 : decode b_Store_endTransaction 5 = .ok (.aload_n 0, 1) := by decide +kernel
theorem d_Store_endTransaction_6 : decode b_Store_endTransaction 6 = .ok (.getfield 42, 3) := by decide +kernel
theorem d_Store_endTransaction_9 : decode b_Store_endTransaction 9 = .ok (.iconst 0, 1) := by decide +kernel
theorem d_Store_endTransaction_10 : decode b_Store_endTransaction 10 = .ok (.invokevirtual 221, 3) := by decide +kernel
theorem d_Store_endTransaction_13 : decode b_Store_endTransaction 13 = .ok (.return_, 1) := by decide +kernel
theorem d_Store_losePower_0 : decode b_Store_losePower 0 = .ok (.aload_n 0, 1) := by decide +kernel
theorem d_Store_losePower_1 : decode b_Store_losePower 1 = .ok (.invokevirtual 189, 3) := by decide +kernel
theorem d_Store_losePower_4 : decode b_Store_losePower 4 = .ok (.aload_n 0, 1) := by decide +kernel
theorem d_Store_losePower_5 : decode b_Store_losePower 5 = .ok (.iconst 0, 1) := by decide +kernel
theorem d_Store_losePower_6 : decode b_Store_losePower 6 = .ok (.putfield 80, 3) := by decide +kernel
theorem d_Store_losePower_9 : decode b_Store_losePower 9 = .ok (.aload_n 0, 1) := by decide +kernel
theorem d_Store_losePower_10 : decode b_Store_losePower 10 = .ok (.iconst 0, 1) := by decide +kernel
theorem d_Store_losePower_11 : decode b_Store_losePower 11 = .ok (.putfield 76, 3) := by decide +kernel
theorem d_Store_losePower_14 : decode b_Store_losePower 14 = .ok (.aload_n 0, 1) := by decide +kernel
theorem d_Store_losePower_15 : decode b_Store_losePower 15 = .ok (.getfield 12, 3) := by decide +kernel
theorem d_Store_losePower_18 : decode b_Store_losePower 18 = .ok (.invokevirtual 164, 3) := by decide +kernel
theorem d_Store_losePower_21 : decode b_Store_losePower 21 = .ok (.aload_n 0, 1) := by decide +kernel
theorem d_Store_losePower_22 : decode b_Store_losePower 22 = .ok (.getfield 16, 3) := by decide +kernel
theorem d_Store_losePower_25 : decode b_Store_losePower 25 = .ok (.invokevirtual 164, 3) := by decide +kernel
theorem d_Store_losePower_28 : decode b_Store_losePower 28 = .ok (.aload_n 0, 1) := by decide +kernel
theorem d_Store_losePower_29 : decode b_Store_losePower 29 = .ok (.getfield 19, 3) := by decide +kernel
theorem d_Store_losePower_32 : decode b_Store_losePower 32 = .ok (.invokevirtual 164, 3) := by decide +kernel
theorem d_Store_losePower_35 : decode b_Store_losePower 35 = .ok (.aload_n 0, 1) := by decide +kernel
theorem d_Store_losePower_36 : decode b_Store_losePower 36 = .ok (.getfield 22, 3) := by decide +kernel
theorem d_Store_losePower_39 : decode b_Store_losePower 39 = .ok (.invokevirtual 164, 3) := by decide +kernel
theorem d_Store_losePower_42 : decode b_Store_losePower 42 = .ok (.return_, 1) := by decide +kernel
/-! decode rows -/
theorem d_Law_key_0 : decode b_Law_key 0 = .ok (.aload 4, 2) := by decide +kernel
theorem d_Law_key_2 : decode b_Law_key 2 = .ok (.iconst 0, 1) := by decide +kernel
theorem d_Law_key_3 : decode b_Law_key 3 = .ok (.aload_n 0, 1) := by decide +kernel
theorem d_Law_key_4 : decode b_Law_key 4 = .ok (.lload_n 1, 1) := by decide +kernel
theorem d_Law_key_5 : decode b_Law_key 5 = .ok (.iload_n 3, 1) := by decide +kernel
theorem d_Law_key_6 : decode b_Law_key 6 = .ok (.invokevirtual 7, 3) := by decide +kernel
theorem d_Law_key_9 : decode b_Law_key 9 = .ok (.i2l, 1) := by decide +kernel
theorem d_Law_key_10 : decode b_Law_key 10 = .ok (.lastore, 1) := by decide +kernel
theorem d_Law_key_11 : decode b_Law_key 11 = .ok (.goto 11, 3) := by decide +kernel
theorem d_Law_key_14 : decode b_Law_key 14 = .ok (.astore 5, 2) := by decide +kernel
theorem d_Law_key_16 : decode b_Law_key 16 = .ok (.iconst 1, 1) := by decide +kernel
theorem d_Law_key_17 : decode b_Law_key 17 = .ok (.ireturn, 1) := by decide +kernel
theorem d_Law_key_18 : decode b_Law_key 18 = .ok (.astore 5, 2) := by decide +kernel
theorem d_Law_key_20 : decode b_Law_key 20 = .ok (.iconst 2, 1) := by decide +kernel
theorem d_Law_key_21 : decode b_Law_key 21 = .ok (.ireturn, 1) := by decide +kernel
theorem d_Law_key_22 : decode b_Law_key 22 = .ok (.iconst 0, 1) := by decide +kernel
theorem d_Law_key_23 : decode b_Law_key 23 = .ok (.ireturn, 1) := by decide +kernel
theorem d_Law_value_0 : decode b_Law_value 0 = .ok (.aload 4, 2) := by decide +kernel
theorem d_Law_value_2 : decode b_Law_value 2 = .ok (.iconst 0, 1) := by decide +kernel
theorem d_Law_value_3 : decode b_Law_value 3 = .ok (.aload_n 0, 1) := by decide +kernel
theorem d_Law_value_4 : decode b_Law_value 4 = .ok (.lload_n 1, 1) := by decide +kernel
theorem d_Law_value_5 : decode b_Law_value 5 = .ok (.iload_n 3, 1) := by decide +kernel
theorem d_Law_value_6 : decode b_Law_value 6 = .ok (.invokevirtual 17, 3) := by decide +kernel
theorem d_Law_value_9 : decode b_Law_value 9 = .ok (.i2l, 1) := by decide +kernel
theorem d_Law_value_10 : decode b_Law_value 10 = .ok (.lastore, 1) := by decide +kernel
theorem d_Law_value_11 : decode b_Law_value 11 = .ok (.goto 11, 3) := by decide +kernel
theorem d_Law_value_14 : decode b_Law_value 14 = .ok (.astore 5, 2) := by decide +kernel
theorem d_Law_value_16 : decode b_Law_value 16 = .ok (.iconst 1, 1) := by decide +kernel
theorem d_Law_value_17 : decode b_Law_value 17 = .ok (.ireturn, 1) := by decide +kernel
theorem d_Law_value_18 : decode b_Law_value 18 = .ok (.astore 5, 2) := by decide +kernel
theorem d_Law_value_20 : decode b_Law_value 20 = .ok (.iconst 2, 1) := by decide +kernel
theorem d_Law_value_21 : decode b_Law_value 21 = .ok (.ireturn, 1) := by decide +kernel
theorem d_Law_value_22 : decode b_Law_value 22 = .ok (.iconst 0, 1) := by decide +kernel
theorem d_Law_value_23 : decode b_Law_value 23 = .ok (.ireturn, 1) := by decide +kernel
theorem d_Law_fill_0 : decode b_Law_fill 0 = .ok (.aload 4, 2) := by decide +kernel
theorem d_Law_fill_2 : decode b_Law_fill 2 = .ok (.iconst 0, 1) := by decide +kernel
theorem d_Law_fill_3 : decode b_Law_fill 3 = .ok (.aload_n 0, 1) := by decide +kernel
theorem d_Law_fill_4 : decode b_Law_fill 4 = .ok (.iload_n 1, 1) := by decide +kernel
theorem d_Law_fill_5 : decode b_Law_fill 5 = .ok (.iload_n 2, 1) := by decide +kernel
theorem d_Law_fill_6 : decode b_Law_fill 6 = .ok (.iload_n 3, 1) := by decide +kernel
theorem d_Law_fill_7 : decode b_Law_fill 7 = .ok (.invokevirtual 20, 3) := by decide +kernel
theorem d_Law_fill_10 : decode b_Law_fill 10 = .ok (.i2l, 1) := by decide +kernel
theorem d_Law_fill_11 : decode b_Law_fill 11 = .ok (.lastore, 1) := by decide +kernel
theorem d_Law_fill_12 : decode b_Law_fill 12 = .ok (.goto 11, 3) := by decide +kernel
theorem d_Law_fill_15 : decode b_Law_fill 15 = .ok (.astore 5, 2) := by decide +kernel
theorem d_Law_fill_17 : decode b_Law_fill 17 = .ok (.iconst 1, 1) := by decide +kernel
theorem d_Law_fill_18 : decode b_Law_fill 18 = .ok (.ireturn, 1) := by decide +kernel
theorem d_Law_fill_19 : decode b_Law_fill 19 = .ok (.astore 5, 2) := by decide +kernel
theorem d_Law_fill_21 : decode b_Law_fill 21 = .ok (.iconst 2, 1) := by decide +kernel
theorem d_Law_fill_22 : decode b_Law_fill 22 = .ok (.ireturn, 1) := by decide +kernel
theorem d_Law_fill_23 : decode b_Law_fill 23 = .ok (.iconst 0, 1) := by decide +kernel
theorem d_Law_fill_24 : decode b_Law_fill 24 = .ok (.ireturn, 1) := by decide +kernel
theorem d_Law_tree_0 : decode b_Law_tree 0 = .ok (.aload_n 1, 1) := by decide +kernel
theorem d_Law_tree_1 : decode b_Law_tree 1 = .ok (.iconst 0, 1) := by decide +kernel
theorem d_Law_tree_2 : decode b_Law_tree 2 = .ok (.aload_n 0, 1) := by decide +kernel
theorem d_Law_tree_3 : decode b_Law_tree 3 = .ok (.invokevirtual 24, 3) := by decide +kernel
theorem d_Law_tree_6 : decode b_Law_tree 6 = .ok (.i2l, 1) := by decide +kernel
theorem d_Law_tree_7 : decode b_Law_tree 7 = .ok (.lastore, 1) := by decide +kernel
theorem d_Law_tree_8 : decode b_Law_tree 8 = .ok (.goto 6, 3) := by decide +kernel
theorem d_Law_tree_11 : decode b_Law_tree 11 = .ok (.astore_n 2, 1) := by decide +kernel
theorem d_Law_tree_12 : decode b_Law_tree 12 = .ok (.iconst 1, 1) := by decide +kernel
theorem d_Law_tree_13 : decode b_Law_tree 13 = .ok (.ireturn, 1) := by decide +kernel
theorem d_Law_tree_14 : decode b_Law_tree 14 = .ok (.iconst 0, 1) := by decide +kernel
theorem d_Law_tree_15 : decode b_Law_tree 15 = .ok (.ireturn, 1) := by decide +kernel
theorem d_Law_drop_0 : decode b_Law_drop 0 = .ok (.aload_n 2, 1) := by decide +kernel
theorem d_Law_drop_1 : decode b_Law_drop 1 = .ok (.iconst 0, 1) := by decide +kernel
theorem d_Law_drop_2 : decode b_Law_drop 2 = .ok (.aload_n 0, 1) := by decide +kernel
theorem d_Law_drop_3 : decode b_Law_drop 3 = .ok (.iload_n 1, 1) := by decide +kernel
theorem d_Law_drop_4 : decode b_Law_drop 4 = .ok (.invokevirtual 28, 3) := by decide +kernel
theorem d_Law_drop_7 : decode b_Law_drop 7 = .ok (.i2l, 1) := by decide +kernel
theorem d_Law_drop_8 : decode b_Law_drop 8 = .ok (.lastore, 1) := by decide +kernel
theorem d_Law_drop_9 : decode b_Law_drop 9 = .ok (.goto 9, 3) := by decide +kernel
theorem d_Law_drop_12 : decode b_Law_drop 12 = .ok (.astore_n 3, 1) := by decide +kernel
theorem d_Law_drop_13 : decode b_Law_drop 13 = .ok (.iconst 1, 1) := by decide +kernel
theorem d_Law_drop_14 : decode b_Law_drop 14 = .ok (.ireturn, 1) := by decide +kernel
theorem d_Law_drop_15 : decode b_Law_drop 15 = .ok (.astore_n 3, 1) := by decide +kernel
theorem d_Law_drop_16 : decode b_Law_drop 16 = .ok (.iconst 2, 1) := by decide +kernel
theorem d_Law_drop_17 : decode b_Law_drop 17 = .ok (.ireturn, 1) := by decide +kernel
theorem d_Law_drop_18 : decode b_Law_drop 18 = .ok (.iconst 0, 1) := by decide +kernel
theorem d_Law_drop_19 : decode b_Law_drop 19 = .ok (.ireturn, 1) := by decide +kernel
theorem d_Law_put_0 : decode b_Law_put 0 = .ok (.aload_n 2, 1) := by decide +kernel
theorem d_Law_put_1 : decode b_Law_put 1 = .ok (.iconst 0, 1) := by decide +kernel
theorem d_Law_put_2 : decode b_Law_put 2 = .ok (.aload_n 0, 1) := by decide +kernel
theorem d_Law_put_3 : decode b_Law_put 3 = .ok (.iload_n 1, 1) := by decide +kernel
theorem d_Law_put_4 : decode b_Law_put 4 = .ok (.invokevirtual 34, 3) := by decide +kernel
theorem d_Law_put_7 : decode b_Law_put 7 = .ok (.ifCond .eq 7, 3) := by decide +kernel
theorem d_Law_put_10 : decode b_Law_put 10 = .ok (.lconst 1, 1) := by decide +kernel
theorem d_Law_put_11 : decode b_Law_put 11 = .ok (.goto 4, 3) := by decide +kernel
theorem d_Law_put_14 : decode b_Law_put 14 = .ok (.lconst 0, 1) := by decide +kernel
theorem d_Law_put_15 : decode b_Law_put 15 = .ok (.lastore, 1) := by decide +kernel
theorem d_Law_put_16 : decode b_Law_put 16 = .ok (.goto 12, 3) := by decide +kernel
theorem d_Law_put_19 : decode b_Law_put 19 = .ok (.astore_n 3, 1) := by decide +kernel
theorem d_Law_put_20 : decode b_Law_put 20 = .ok (.iconst 1, 1) := by decide +kernel
theorem d_Law_put_21 : decode b_Law_put 21 = .ok (.ireturn, 1) := by decide +kernel
theorem d_Law_put_22 : decode b_Law_put 22 = .ok (.astore_n 3, 1) := by decide +kernel
theorem d_Law_put_23 : decode b_Law_put 23 = .ok (.iconst 2, 1) := by decide +kernel
theorem d_Law_put_24 : decode b_Law_put 24 = .ok (.ireturn, 1) := by decide +kernel
theorem d_Law_put_25 : decode b_Law_put 25 = .ok (.astore_n 3, 1) := by decide +kernel
theorem d_Law_put_26 : decode b_Law_put 26 = .ok (.iconst 3, 1) := by decide +kernel
theorem d_Law_put_27 : decode b_Law_put 27 = .ok (.ireturn, 1) := by decide +kernel
theorem d_Law_put_28 : decode b_Law_put 28 = .ok (.iconst 0, 1) := by decide +kernel
theorem d_Law_put_29 : decode b_Law_put 29 = .ok (.ireturn, 1) := by decide +kernel
theorem d_Law_remove_0 : decode b_Law_remove 0 = .ok (.aload_n 2, 1) := by decide +kernel
theorem d_Law_remove_1 : decode b_Law_remove 1 = .ok (.iconst 0, 1) := by decide +kernel
theorem d_Law_remove_2 : decode b_Law_remove 2 = .ok (.aload_n 0, 1) := by decide +kernel
theorem d_Law_remove_3 : decode b_Law_remove 3 = .ok (.iload_n 1, 1) := by decide +kernel
theorem d_Law_remove_4 : decode b_Law_remove 4 = .ok (.invokevirtual 38, 3) := by decide +kernel
theorem d_Law_remove_7 : decode b_Law_remove 7 = .ok (.ifCond .eq 7, 3) := by decide +kernel
theorem d_Law_remove_10 : decode b_Law_remove 10 = .ok (.lconst 1, 1) := by decide +kernel
theorem d_Law_remove_11 : decode b_Law_remove 11 = .ok (.goto 4, 3) := by decide +kernel
theorem d_Law_remove_14 : decode b_Law_remove 14 = .ok (.lconst 0, 1) := by decide +kernel
theorem d_Law_remove_15 : decode b_Law_remove 15 = .ok (.lastore, 1) := by decide +kernel
theorem d_Law_remove_16 : decode b_Law_remove 16 = .ok (.goto 9, 3) := by decide +kernel
theorem d_Law_remove_19 : decode b_Law_remove 19 = .ok (.astore_n 3, 1) := by decide +kernel
theorem d_Law_remove_20 : decode b_Law_remove 20 = .ok (.iconst 1, 1) := by decide +kernel
theorem d_Law_remove_21 : decode b_Law_remove 21 = .ok (.ireturn, 1) := by decide +kernel
theorem d_Law_remove_22 : decode b_Law_remove 22 = .ok (.astore_n 3, 1) := by decide +kernel
theorem d_Law_remove_23 : decode b_Law_remove 23 = .ok (.iconst 2, 1) := by decide +kernel
theorem d_Law_remove_24 : decode b_Law_remove 24 = .ok (.ireturn, 1) := by decide +kernel
theorem d_Law_remove_25 : decode b_Law_remove 25 = .ok (.iconst 0, 1) := by decide +kernel
theorem d_Law_remove_26 : decode b_Law_remove 26 = .ok (.ireturn, 1) := by decide +kernel
theorem d_Law_seek_0 : decode b_Law_seek 0 = .ok (.aload_n 3, 1) := by decide +kernel
theorem d_Law_seek_1 : decode b_Law_seek 1 = .ok (.iconst 0, 1) := by decide +kernel
theorem d_Law_seek_2 : decode b_Law_seek 2 = .ok (.aload_n 0, 1) := by decide +kernel
theorem d_Law_seek_3 : decode b_Law_seek 3 = .ok (.iload_n 1, 1) := by decide +kernel
theorem d_Law_seek_4 : decode b_Law_seek 4 = .ok (.iload_n 2, 1) := by decide +kernel
theorem d_Law_seek_5 : decode b_Law_seek 5 = .ok (.invokevirtual 41, 3) := by decide +kernel
theorem d_Law_seek_8 : decode b_Law_seek 8 = .ok (.ifCond .eq 7, 3) := by decide +kernel
theorem d_Law_seek_11 : decode b_Law_seek 11 = .ok (.lconst 1, 1) := by decide +kernel
theorem d_Law_seek_12 : decode b_Law_seek 12 = .ok (.goto 4, 3) := by decide +kernel
theorem d_Law_seek_15 : decode b_Law_seek 15 = .ok (.lconst 0, 1) := by decide +kernel
theorem d_Law_seek_16 : decode b_Law_seek 16 = .ok (.lastore, 1) := by decide +kernel
theorem d_Law_seek_17 : decode b_Law_seek 17 = .ok (.goto 11, 3) := by decide +kernel
theorem d_Law_seek_20 : decode b_Law_seek 20 = .ok (.astore 4, 2) := by decide +kernel
theorem d_Law_seek_22 : decode b_Law_seek 22 = .ok (.iconst 1, 1) := by decide +kernel
theorem d_Law_seek_23 : decode b_Law_seek 23 = .ok (.ireturn, 1) := by decide +kernel
theorem d_Law_seek_24 : decode b_Law_seek 24 = .ok (.astore 4, 2) := by decide +kernel
theorem d_Law_seek_26 : decode b_Law_seek 26 = .ok (.iconst 2, 1) := by decide +kernel
theorem d_Law_seek_27 : decode b_Law_seek 27 = .ok (.ireturn, 1) := by decide +kernel
theorem d_Law_seek_28 : decode b_Law_seek 28 = .ok (.iconst 0, 1) := by decide +kernel
theorem d_Law_seek_29 : decode b_Law_seek 29 = .ok (.ireturn, 1) := by decide +kernel
theorem d_Law_take_0 : decode b_Law_take 0 = .ok (.aload_n 1, 1) := by decide +kernel
theorem d_Law_take_1 : decode b_Law_take 1 = .ok (.iconst 0, 1) := by decide +kernel
theorem d_Law_take_2 : decode b_Law_take 2 = .ok (.aload_n 0, 1) := by decide +kernel
theorem d_Law_take_3 : decode b_Law_take 3 = .ok (.invokevirtual 45, 3) := by decide +kernel
theorem d_Law_take_6 : decode b_Law_take 6 = .ok (.i2l, 1) := by decide +kernel
theorem d_Law_take_7 : decode b_Law_take 7 = .ok (.lastore, 1) := by decide +kernel
theorem d_Law_take_8 : decode b_Law_take 8 = .ok (.goto 6, 3) := by decide +kernel
theorem d_Law_take_11 : decode b_Law_take 11 = .ok (.astore_n 2, 1) := by decide +kernel
theorem d_Law_take_12 : decode b_Law_take 12 = .ok (.iconst 1, 1) := by decide +kernel
theorem d_Law_take_13 : decode b_Law_take 13 = .ok (.ireturn, 1) := by decide +kernel
theorem d_Law_take_14 : decode b_Law_take 14 = .ok (.iconst 0, 1) := by decide +kernel
theorem d_Law_take_15 : decode b_Law_take 15 = .ok (.ireturn, 1) := by decide +kernel
theorem d_Law_found_0 : decode b_Law_found 0 = .ok (.aload_n 3, 1) := by decide +kernel
theorem d_Law_found_1 : decode b_Law_found 1 = .ok (.iconst 0, 1) := by decide +kernel
theorem d_Law_found_2 : decode b_Law_found 2 = .ok (.aload_n 0, 1) := by decide +kernel
theorem d_Law_found_3 : decode b_Law_found 3 = .ok (.iload_n 1, 1) := by decide +kernel
theorem d_Law_found_4 : decode b_Law_found 4 = .ok (.iload_n 2, 1) := by decide +kernel
theorem d_Law_found_5 : decode b_Law_found 5 = .ok (.invokevirtual 48, 3) := by decide +kernel
theorem d_Law_found_8 : decode b_Law_found 8 = .ok (.lastore, 1) := by decide +kernel
theorem d_Law_found_9 : decode b_Law_found 9 = .ok (.goto 11, 3) := by decide +kernel
theorem d_Law_found_12 : decode b_Law_found 12 = .ok (.astore 4, 2) := by decide +kernel
theorem d_Law_found_14 : decode b_Law_found 14 = .ok (.iconst 1, 1) := by decide +kernel
theorem d_Law_found_15 : decode b_Law_found 15 = .ok (.ireturn, 1) := by decide +kernel
theorem d_Law_found_16 : decode b_Law_found 16 = .ok (.astore 4, 2) := by decide +kernel
theorem d_Law_found_18 : decode b_Law_found 18 = .ok (.iconst 2, 1) := by decide +kernel
theorem d_Law_found_19 : decode b_Law_found 19 = .ok (.ireturn, 1) := by decide +kernel
theorem d_Law_found_20 : decode b_Law_found 20 = .ok (.iconst 0, 1) := by decide +kernel
theorem d_Law_found_21 : decode b_Law_found 21 = .ok (.ireturn, 1) := by decide +kernel
theorem d_Law_begin_0 : decode b_Law_begin 0 = .ok (.aload_n 0, 1) := by decide +kernel
theorem d_Law_begin_1 : decode b_Law_begin 1 = .ok (.invokevirtual 52, 3) := by decide +kernel
theorem d_Law_begin_4 : decode b_Law_begin 4 = .ok (.goto 6, 3) := by decide +kernel
theorem d_Law_begin_7 : decode b_Law_begin 7 = .ok (.astore_n 1, 1) := by decide +kernel
theorem d_Law_begin_8 : decode b_Law_begin 8 = .ok (.iconst 1, 1) := by decide +kernel
theorem d_Law_begin_9 : decode b_Law_begin 9 = .ok (.ireturn, 1) := by decide +kernel
theorem d_Law_begin_10 : decode b_Law_begin 10 = .ok (.iconst 0, 1) := by decide +kernel
theorem d_Law_begin_11 : decode b_Law_begin 11 = .ok (.ireturn, 1) := by decide +kernel
theorem d_Law_commit_0 : decode b_Law_commit 0 = .ok (.aload_n 0, 1) := by decide +kernel
theorem d_Law_commit_1 : decode b_Law_commit 1 = .ok (.invokevirtual 55, 3) := by decide +kernel
theorem d_Law_commit_4 : decode b_Law_commit 4 = .ok (.goto 9, 3) := by decide +kernel
theorem d_Law_commit_7 : decode b_Law_commit 7 = .ok (.astore_n 1, 1) := by decide +kernel
theorem d_Law_commit_8 : decode b_Law_commit 8 = .ok (.iconst 1, 1) := by decide +kernel
theorem d_Law_commit_9 : decode b_Law_commit 9 = .ok (.ireturn, 1) := by decide +kernel
theorem d_Law_commit_10 : decode b_Law_commit 10 = .ok (.astore_n 1, 1) := by decide +kernel
theorem d_Law_commit_11 : decode b_Law_commit 11 = .ok (.iconst 2, 1) := by decide +kernel
theorem d_Law_commit_12 : decode b_Law_commit 12 = .ok (.ireturn, 1) := by decide +kernel
theorem d_Law_commit_13 : decode b_Law_commit 13 = .ok (.iconst 0, 1) := by decide +kernel
theorem d_Law_commit_14 : decode b_Law_commit 14 = .ok (.ireturn, 1) := by decide +kernel
theorem d_Law_rollback_0 : decode b_Law_rollback 0 = .ok (.aload_n 0, 1) := by decide +kernel
theorem d_Law_rollback_1 : decode b_Law_rollback 1 = .ok (.invokevirtual 60, 3) := by decide +kernel
theorem d_Law_rollback_4 : decode b_Law_rollback 4 = .ok (.goto 6, 3) := by decide +kernel
theorem d_Law_rollback_7 : decode b_Law_rollback 7 = .ok (.astore_n 1, 1) := by decide +kernel
theorem d_Law_rollback_8 : decode b_Law_rollback 8 = .ok (.iconst 1, 1) := by decide +kernel
theorem d_Law_rollback_9 : decode b_Law_rollback 9 = .ok (.ireturn, 1) := by decide +kernel
theorem d_Law_rollback_10 : decode b_Law_rollback 10 = .ok (.iconst 0, 1) := by decide +kernel
theorem d_Law_rollback_11 : decode b_Law_rollback 11 = .ok (.ireturn, 1) := by decide +kernel
theorem d_Law_mark_0 : decode b_Law_mark 0 = .ok (.aload_n 1, 1) := by decide +kernel
theorem d_Law_mark_1 : decode b_Law_mark 1 = .ok (.iconst 0, 1) := by decide +kernel
theorem d_Law_mark_2 : decode b_Law_mark 2 = .ok (.aload_n 0, 1) := by decide +kernel
theorem d_Law_mark_3 : decode b_Law_mark 3 = .ok (.invokevirtual 63, 3) := by decide +kernel
theorem d_Law_mark_6 : decode b_Law_mark 6 = .ok (.i2l, 1) := by decide +kernel
theorem d_Law_mark_7 : decode b_Law_mark 7 = .ok (.lastore, 1) := by decide +kernel
theorem d_Law_mark_8 : decode b_Law_mark 8 = .ok (.goto 6, 3) := by decide +kernel
theorem d_Law_mark_11 : decode b_Law_mark 11 = .ok (.astore_n 2, 1) := by decide +kernel
theorem d_Law_mark_12 : decode b_Law_mark 12 = .ok (.iconst 1, 1) := by decide +kernel
theorem d_Law_mark_13 : decode b_Law_mark 13 = .ok (.ireturn, 1) := by decide +kernel
theorem d_Law_mark_14 : decode b_Law_mark 14 = .ok (.iconst 0, 1) := by decide +kernel
theorem d_Law_mark_15 : decode b_Law_mark 15 = .ok (.ireturn, 1) := by decide +kernel
theorem d_Law_back_0 : decode b_Law_back 0 = .ok (.aload_n 0, 1) := by decide +kernel
theorem d_Law_back_1 : decode b_Law_back 1 = .ok (.iload_n 1, 1) := by decide +kernel
theorem d_Law_back_2 : decode b_Law_back 2 = .ok (.invokevirtual 66, 3) := by decide +kernel
theorem d_Law_back_5 : decode b_Law_back 5 = .ok (.goto 9, 3) := by decide +kernel
theorem d_Law_back_8 : decode b_Law_back 8 = .ok (.astore_n 2, 1) := by decide +kernel
theorem d_Law_back_9 : decode b_Law_back 9 = .ok (.iconst 1, 1) := by decide +kernel
theorem d_Law_back_10 : decode b_Law_back 10 = .ok (.ireturn, 1) := by decide +kernel
theorem d_Law_back_11 : decode b_Law_back 11 = .ok (.astore_n 2, 1) := by decide +kernel
theorem d_Law_back_12 : decode b_Law_back 12 = .ok (.iconst 2, 1) := by decide +kernel
theorem d_Law_back_13 : decode b_Law_back 13 = .ok (.ireturn, 1) := by decide +kernel
theorem d_Law_back_14 : decode b_Law_back 14 = .ok (.iconst 0, 1) := by decide +kernel
theorem d_Law_back_15 : decode b_Law_back 15 = .ok (.ireturn, 1) := by decide +kernel
theorem d_Law_keep_0 : decode b_Law_keep 0 = .ok (.aload_n 0, 1) := by decide +kernel
theorem d_Law_keep_1 : decode b_Law_keep 1 = .ok (.iload_n 1, 1) := by decide +kernel
theorem d_Law_keep_2 : decode b_Law_keep 2 = .ok (.invokevirtual 72, 3) := by decide +kernel
theorem d_Law_keep_5 : decode b_Law_keep 5 = .ok (.goto 9, 3) := by decide +kernel
theorem d_Law_keep_8 : decode b_Law_keep 8 = .ok (.astore_n 2, 1) := by decide +kernel
theorem d_Law_keep_9 : decode b_Law_keep 9 = .ok (.iconst 1, 1) := by decide +kernel
theorem d_Law_keep_10 : decode b_Law_keep 10 = .ok (.ireturn, 1) := by decide +kernel
theorem d_Law_keep_11 : decode b_Law_keep 11 = .ok (.astore_n 2, 1) := by decide +kernel
theorem d_Law_keep_12 : decode b_Law_keep 12 = .ok (.iconst 2, 1) := by decide +kernel
theorem d_Law_keep_13 : decode b_Law_keep 13 = .ok (.ireturn, 1) := by decide +kernel
theorem d_Law_keep_14 : decode b_Law_keep 14 = .ok (.iconst 0, 1) := by decide +kernel
theorem d_Law_keep_15 : decode b_Law_keep 15 = .ok (.ireturn, 1) := by decide +kernel
theorem d_Law_power_0 : decode b_Law_power 0 = .ok (.aload_n 0, 1) := by decide +kernel
theorem d_Law_power_1 : decode b_Law_power 1 = .ok (.iload_n 1, 1) := by decide +kernel
theorem d_Law_power_2 : decode b_Law_power 2 = .ok (.iload_n 2, 1) := by decide +kernel
theorem d_Law_power_3 : decode b_Law_power 3 = .ok (.iload_n 3, 1) := by decide +kernel
theorem d_Law_power_4 : decode b_Law_power 4 = .ok (.invokevirtual 75, 3) := by decide +kernel
theorem d_Law_power_7 : decode b_Law_power 7 = .ok (.goto 7, 3) := by decide +kernel
theorem d_Law_power_10 : decode b_Law_power 10 = .ok (.astore 4, 2) := by decide +kernel
theorem d_Law_power_12 : decode b_Law_power 12 = .ok (.iconst 1, 1) := by decide +kernel
theorem d_Law_power_13 : decode b_Law_power 13 = .ok (.ireturn, 1) := by decide +kernel
theorem d_Law_power_14 : decode b_Law_power 14 = .ok (.iconst 0, 1) := by decide +kernel
theorem d_Law_power_15 : decode b_Law_power 15 = .ok (.ireturn, 1) := by decide +kernel
theorem d_Law_reopen_0 : decode b_Law_reopen 0 = .ok (.aload_n 1, 1) := by decide +kernel
theorem d_Law_reopen_1 : decode b_Law_reopen 1 = .ok (.iconst 0, 1) := by decide +kernel
theorem d_Law_reopen_2 : decode b_Law_reopen 2 = .ok (.aload_n 0, 1) := by decide +kernel
theorem d_Law_reopen_3 : decode b_Law_reopen 3 = .ok (.invokevirtual 79, 3) := by decide +kernel
theorem d_Law_reopen_6 : decode b_Law_reopen 6 = .ok (.i2l, 1) := by decide +kernel
theorem d_Law_reopen_7 : decode b_Law_reopen 7 = .ok (.lastore, 1) := by decide +kernel
theorem d_Law_reopen_8 : decode b_Law_reopen 8 = .ok (.goto 6, 3) := by decide +kernel
theorem d_Law_reopen_11 : decode b_Law_reopen 11 = .ok (.astore_n 2, 1) := by decide +kernel
theorem d_Law_reopen_12 : decode b_Law_reopen 12 = .ok (.iconst 1, 1) := by decide +kernel
theorem d_Law_reopen_13 : decode b_Law_reopen 13 = .ok (.ireturn, 1) := by decide +kernel
theorem d_Law_reopen_14 : decode b_Law_reopen 14 = .ok (.iconst 0, 1) := by decide +kernel
theorem d_Law_reopen_15 : decode b_Law_reopen 15 = .ok (.ireturn, 1) := by decide +kernel
theorem d_Law_told_0 : decode b_Law_told 0 = .ok (.aload_n 2, 1) := by decide +kernel
theorem d_Law_told_1 : decode b_Law_told 1 = .ok (.iconst 0, 1) := by decide +kernel
theorem d_Law_told_2 : decode b_Law_told 2 = .ok (.aload_n 0, 1) := by decide +kernel
theorem d_Law_told_3 : decode b_Law_told 3 = .ok (.iload_n 1, 1) := by decide +kernel
theorem d_Law_told_4 : decode b_Law_told 4 = .ok (.invokevirtual 82, 3) := by decide +kernel
theorem d_Law_told_7 : decode b_Law_told 7 = .ok (.i2l, 1) := by decide +kernel
theorem d_Law_told_8 : decode b_Law_told 8 = .ok (.lastore, 1) := by decide +kernel
theorem d_Law_told_9 : decode b_Law_told 9 = .ok (.goto 6, 3) := by decide +kernel
theorem d_Law_told_12 : decode b_Law_told 12 = .ok (.astore_n 3, 1) := by decide +kernel
theorem d_Law_told_13 : decode b_Law_told 13 = .ok (.iconst 1, 1) := by decide +kernel
theorem d_Law_told_14 : decode b_Law_told 14 = .ok (.ireturn, 1) := by decide +kernel
theorem d_Law_told_15 : decode b_Law_told 15 = .ok (.iconst 0, 1) := by decide +kernel
theorem d_Law_told_16 : decode b_Law_told 16 = .ok (.ireturn, 1) := by decide +kernel
theorem d_Law_check_0 : decode b_Law_check 0 = .ok (.aload_n 1, 1) := by decide +kernel
theorem d_Law_check_1 : decode b_Law_check 1 = .ok (.iconst 0, 1) := by decide +kernel
theorem d_Law_check_2 : decode b_Law_check 2 = .ok (.aload_n 0, 1) := by decide +kernel
theorem d_Law_check_3 : decode b_Law_check 3 = .ok (.invokevirtual 85, 3) := by decide +kernel
theorem d_Law_check_6 : decode b_Law_check 6 = .ok (.i2l, 1) := by decide +kernel
theorem d_Law_check_7 : decode b_Law_check 7 = .ok (.lastore, 1) := by decide +kernel
theorem d_Law_check_8 : decode b_Law_check 8 = .ok (.goto 6, 3) := by decide +kernel
theorem d_Law_check_11 : decode b_Law_check 11 = .ok (.astore_n 2, 1) := by decide +kernel
theorem d_Law_check_12 : decode b_Law_check 12 = .ok (.iconst 1, 1) := by decide +kernel
theorem d_Law_check_13 : decode b_Law_check 13 = .ok (.ireturn, 1) := by decide +kernel
theorem d_Law_check_14 : decode b_Law_check 14 = .ok (.iconst 0, 1) := by decide +kernel
theorem d_Law_check_15 : decode b_Law_check 15 = .ok (.ireturn, 1) := by decide +kernel
