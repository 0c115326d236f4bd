/-! decode rows -/
theorem d_Trees_init_0 : decode b_Trees_init 0 = .ok (.aload_n 0, 1) := by decide +kernel
theorem d_Trees_init_1 : decode b_Trees_init 1 = .ok (.invokespecial 3, 3) := by decide +kernel
theorem d_Trees_init_4 : decode b_Trees_init 4 = .ok (.aload_n 0, 1) := by decide +kernel
theorem d_Trees_init_5 : decode b_Trees_init 5 = .ok (.bipush 6, 2) := by decide +kernel
theorem d_Trees_init_7 : decode b_Trees_init 7 = .ok (.newarray .int, 2) := by decide +kernel
theorem d_Trees_init_9 : decode b_Trees_init 9 = .ok (.putfield 11, 3) := by decide +kernel
theorem d_Trees_init_12 : decode b_Trees_init 12 = .ok (.aload_n 0, 1) := by decide +kernel
theorem d_Trees_init_13 : decode b_Trees_init 13 = .ok (.bipush 6, 2) := by decide +kernel
theorem d_Trees_init_15 : decode b_Trees_init 15 = .ok (.newarray .int, 2) := by decide +kernel
theorem d_Trees_init_17 : decode b_Trees_init 17 = .ok (.putfield 17, 3) := by decide +kernel
theorem d_Trees_init_20 : decode b_Trees_init 20 = .ok (.aload_n 0, 1) := by decide +kernel
theorem d_Trees_init_21 : decode b_Trees_init 21 = .ok (.iconst 0, 1) := by decide +kernel
theorem d_Trees_init_22 : decode b_Trees_init 22 = .ok (.putfield 20, 3) := by decide +kernel
theorem d_Trees_init_25 : decode b_Trees_init 25 = .ok (.aload_n 0, 1) := by decide +kernel
theorem d_Trees_init_26 : decode b_Trees_init 26 = .ok (.aload_n 1, 1) := by decide +kernel
theorem d_Trees_init_27 : decode b_Trees_init 27 = .ok (.putfield 24, 3) := by decide +kernel
theorem d_Trees_init_30 : decode b_Trees_init 30 = .ok (.aload_n 0, 1) := by decide +kernel
theorem d_Trees_init_31 : decode b_Trees_init 31 = .ok (.aload_n 2, 1) := by decide +kernel
theorem d_Trees_init_32 : decode b_Trees_init 32 = .ok (.putfield 28, 3) := by decide +kernel
theorem d_Trees_init_35 : decode b_Trees_init 35 = .ok (.aload_n 0, 1) := by decide +kernel
theorem d_Trees_init_36 : decode b_Trees_init 36 = .ok (.aload_n 3, 1) := by decide +kernel
theorem d_Trees_init_37 : decode b_Trees_init 37 = .ok (.putfield 32, 3) := by decide +kernel
theorem d_Trees_init_40 : decode b_Trees_init 40 = .ok (.return_, 1) := by decide +kernel
theorem d_Trees_has_0 : decode b_Trees_has 0 = .ok (.iload_n 1, 1) := by decide +kernel
theorem d_Trees_has_1 : decode b_Trees_has 1 = .ok (.ifCond .lt 21, 3) := by decide +kernel
theorem d_Trees_has_4 : decode b_Trees_has 4 = .ok (.iload_n 1, 1) := by decide +kernel
theorem d_Trees_has_5 : decode b_Trees_has 5 = .ok (.bipush 64, 2) := by decide +kernel
theorem d_Trees_has_7 : decode b_Trees_has 7 = .ok (.if_icmp .ge 15, 3) := by decide +kernel
theorem d_Trees_has_10 : decode b_Trees_has 10 = .ok (.aload_n 0, 1) := by decide +kernel
theorem d_Trees_has_11 : decode b_Trees_has 11 = .ok (.iload_n 1, 1) := by decide +kernel
theorem d_Trees_has_12 : decode b_Trees_has 12 = .ok (.invokevirtual 36, 3) := by decide +kernel
theorem d_Trees_has_15 : decode b_Trees_has 15 = .ok (.ifCond .eq 7, 3) := by decide +kernel
theorem d_Trees_has_18 : decode b_Trees_has 18 = .ok (.iconst 1, 1) := by decide +kernel
theorem d_Trees_has_19 : decode b_Trees_has 19 = .ok (.goto 4, 3) := by decide +kernel
theorem d_Trees_has_22 : decode b_Trees_has 22 = .ok (.iconst 0, 1) := by decide +kernel
theorem d_Trees_has_23 : decode b_Trees_has 23 = .ok (.ireturn, 1) := by decide +kernel
theorem d_Trees_root_0 : decode b_Trees_root 0 = .ok (.aload_n 0, 1) := by decide +kernel
theorem d_Trees_root_1 : decode b_Trees_root 1 = .ok (.getfield 24, 3) := by decide +kernel
theorem d_Trees_root_4 : decode b_Trees_root 4 = .ok (.bipush 32, 2) := by decide +kernel
theorem d_Trees_root_6 : decode b_Trees_root 6 = .ok (.iconst 4, 1) := by decide +kernel
theorem d_Trees_root_7 : decode b_Trees_root 7 = .ok (.iload_n 1, 1) := by decide +kernel
theorem d_Trees_root_8 : decode b_Trees_root 8 = .ok (.imul, 1) := by decide +kernel
theorem d_Trees_root_9 : decode b_Trees_root 9 = .ok (.iadd, 1) := by decide +kernel
theorem d_Trees_root_10 : decode b_Trees_root 10 = .ok (.invokevirtual 40, 3) := by decide +kernel
theorem d_Trees_root_13 : decode b_Trees_root 13 = .ok (.ireturn, 1) := by decide +kernel
theorem d_Trees_entries_0 : decode b_Trees_entries 0 = .ok (.aload_n 0, 1) := by decide +kernel
theorem d_Trees_entries_1 : decode b_Trees_entries 1 = .ok (.getfield 24, 3) := by decide +kernel
theorem d_Trees_entries_4 : decode b_Trees_entries 4 = .ok (.bipush 32, 2) := by decide +kernel
theorem d_Trees_entries_6 : decode b_Trees_entries 6 = .ok (.iconst 4, 1) := by decide +kernel
theorem d_Trees_entries_7 : decode b_Trees_entries 7 = .ok (.iload_n 1, 1) := by decide +kernel
theorem d_Trees_entries_8 : decode b_Trees_entries 8 = .ok (.imul, 1) := by decide +kernel
theorem d_Trees_entries_9 : decode b_Trees_entries 9 = .ok (.iadd, 1) := by decide +kernel
theorem d_Trees_entries_10 : decode b_Trees_entries 10 = .ok (.iconst 2, 1) := by decide +kernel
theorem d_Trees_entries_11 : decode b_Trees_entries 11 = .ok (.iadd, 1) := by decide +kernel
theorem d_Trees_entries_12 : decode b_Trees_entries 12 = .ok (.invokevirtual 40, 3) := by decide +kernel
theorem d_Trees_entries_15 : decode b_Trees_entries 15 = .ok (.ireturn, 1) := by decide +kernel
theorem d_Trees_leastUnused_0 : decode b_Trees_leastUnused 0 = .ok (.iconst 0, 1) := by decide +kernel
theorem d_Trees_leastUnused_1 : decode b_Trees_leastUnused 1 = .ok (.istore_n 1, 1) := by decide +kernel
theorem d_Trees_leastUnused_2 : decode b_Trees_leastUnused 2 = .ok (.iload_n 1, 1) := by decide +kernel
theorem d_Trees_leastUnused_3 : decode b_Trees_leastUnused 3 = .ok (.bipush 64, 2) := by decide +kernel
theorem d_Trees_leastUnused_5 : decode b_Trees_leastUnused 5 = .ok (.if_icmp .ge 19, 3) := by decide +kernel
theorem d_Trees_leastUnused_8 : decode b_Trees_leastUnused 8 = .ok (.aload_n 0, 1) := by decide +kernel
theorem d_Trees_leastUnused_9 : decode b_Trees_leastUnused 9 = .ok (.iload_n 1, 1) := by decide +kernel
theorem d_Trees_leastUnused_10 : decode b_Trees_leastUnused 10 = .ok (.invokevirtual 45, 3) := by decide +kernel
theorem d_Trees_leastUnused_13 : decode b_Trees_leastUnused 13 = .ok (.ifCond .ne 5, 3) := by decide +kernel
theorem d_Trees_leastUnused_16 : decode b_Trees_leastUnused 16 = .ok (.iload_n 1, 1) := by decide +kernel
theorem d_Trees_leastUnused_17 : decode b_Trees_leastUnused 17 = .ok (.ireturn, 1) := by decide +kernel
theorem d_Trees_leastUnused_18 : decode b_Trees_leastUnused 18 = .ok (.iinc 1 1, 3) := by decide +kernel
theorem d_Trees_leastUnused_21 : decode b_Trees_leastUnused 21 = .ok (.goto (-19), 3) := by decide +kernel
theorem d_Trees_leastUnused_24 : decode b_Trees_leastUnused 24 = .ok (.bipush 64, 2) := by decide +kernel
theorem d_Trees_leastUnused_26 : decode b_Trees_leastUnused 26 = .ok (.ireturn, 1) := by decide +kernel
theorem d_Trees_addTree_0 : decode b_Trees_addTree 0 = .ok (.aload_n 0, 1) := by decide +kernel
theorem d_Trees_addTree_1 : decode b_Trees_addTree 1 = .ok (.iload_n 1, 1) := by decide +kernel
theorem d_Trees_addTree_2 : decode b_Trees_addTree 2 = .ok (.aload_n 0, 1) := by decide +kernel
theorem d_Trees_addTree_3 : decode b_Trees_addTree 3 = .ok (.getfield 28, 3) := by decide +kernel
theorem d_Trees_addTree_6 : decode b_Trees_addTree 6 = .ok (.iconst 0, 1) := by decide +kernel
theorem d_Trees_addTree_7 : decode b_Trees_addTree 7 = .ok (.invokevirtual 49, 3) := by decide +kernel
theorem d_Trees_addTree_10 : decode b_Trees_addTree 10 = .ok (.invokevirtual 52, 3) := by decide +kernel
theorem d_Trees_addTree_13 : decode b_Trees_addTree 13 = .ok (.aload_n 0, 1) := by decide +kernel
theorem d_Trees_addTree_14 : decode b_Trees_addTree 14 = .ok (.getfield 24, 3) := by decide +kernel
theorem d_Trees_addTree_17 : decode b_Trees_addTree 17 = .ok (.bipush 6, 2) := by decide +kernel
theorem d_Trees_addTree_19 : decode b_Trees_addTree 19 = .ok (.iconst 1, 1) := by decide +kernel
theorem d_Trees_addTree_20 : decode b_Trees_addTree 20 = .ok (.invokevirtual 56, 3) := by decide +kernel
theorem d_Trees_addTree_23 : decode b_Trees_addTree 23 = .ok (.return_, 1) := by decide +kernel
theorem d_Trees_dropTree_0 : decode b_Trees_dropTree 0 = .ok (.aload_n 0, 1) := by decide +kernel
theorem d_Trees_dropTree_1 : decode b_Trees_dropTree 1 = .ok (.iload_n 1, 1) := by decide +kernel
theorem d_Trees_dropTree_2 : decode b_Trees_dropTree 2 = .ok (.invokevirtual 59, 3) := by decide +kernel
theorem d_Trees_dropTree_5 : decode b_Trees_dropTree 5 = .ok (.istore_n 2, 1) := by decide +kernel
theorem d_Trees_dropTree_6 : decode b_Trees_dropTree 6 = .ok (.aload_n 0, 1) := by decide +kernel
theorem d_Trees_dropTree_7 : decode b_Trees_dropTree 7 = .ok (.iload_n 1, 1) := by decide +kernel
theorem d_Trees_dropTree_8 : decode b_Trees_dropTree 8 = .ok (.invokevirtual 36, 3) := by decide +kernel
theorem d_Trees_dropTree_11 : decode b_Trees_dropTree 11 = .ok (.istore_n 3, 1) := by decide +kernel
theorem d_Trees_dropTree_12 : decode b_Trees_dropTree 12 = .ok (.aload_n 0, 1) := by decide +kernel
theorem d_Trees_dropTree_13 : decode b_Trees_dropTree 13 = .ok (.iload_n 3, 1) := by decide +kernel
theorem d_Trees_dropTree_14 : decode b_Trees_dropTree 14 = .ok (.aload_n 0, 1) := by decide +kernel
theorem d_Trees_dropTree_15 : decode b_Trees_dropTree 15 = .ok (.getfield 28, 3) := by decide +kernel
theorem d_Trees_dropTree_18 : decode b_Trees_dropTree 18 = .ok (.iload_n 3, 1) := by decide +kernel
theorem d_Trees_dropTree_19 : decode b_Trees_dropTree 19 = .ok (.invokevirtual 62, 3) := by decide +kernel
theorem d_Trees_dropTree_22 : decode b_Trees_dropTree 22 = .ok (.invokevirtual 65, 3) := by decide +kernel
theorem d_Trees_dropTree_25 : decode b_Trees_dropTree 25 = .ok (.aload_n 0, 1) := by decide +kernel
theorem d_Trees_dropTree_26 : decode b_Trees_dropTree 26 = .ok (.iload_n 1, 1) := by decide +kernel
theorem d_Trees_dropTree_27 : decode b_Trees_dropTree 27 = .ok (.iconst 0, 1) := by decide +kernel
theorem d_Trees_dropTree_28 : decode b_Trees_dropTree 28 = .ok (.invokevirtual 52, 3) := by decide +kernel
theorem d_Trees_dropTree_31 : decode b_Trees_dropTree 31 = .ok (.aload_n 0, 1) := by decide +kernel
theorem d_Trees_dropTree_32 : decode b_Trees_dropTree 32 = .ok (.getfield 24, 3) := by decide +kernel
theorem d_Trees_dropTree_35 : decode b_Trees_dropTree 35 = .ok (.bipush 32, 2) := by decide +kernel
theorem d_Trees_dropTree_37 : decode b_Trees_dropTree 37 = .ok (.iconst 4, 1) := by decide +kernel
theorem d_Trees_dropTree_38 : decode b_Trees_dropTree 38 = .ok (.iload_n 1, 1) := by decide +kernel
theorem d_Trees_dropTree_39 : decode b_Trees_dropTree 39 = .ok (.imul, 1) := by decide +kernel
theorem d_Trees_dropTree_40 : decode b_Trees_dropTree 40 = .ok (.iadd, 1) := by decide +kernel
theorem d_Trees_dropTree_41 : decode b_Trees_dropTree 41 = .ok (.iconst 2, 1) := by decide +kernel
theorem d_Trees_dropTree_42 : decode b_Trees_dropTree 42 = .ok (.iadd, 1) := by decide +kernel
theorem d_Trees_dropTree_43 : decode b_Trees_dropTree 43 = .ok (.iload_n 2, 1) := by decide +kernel
theorem d_Trees_dropTree_44 : decode b_Trees_dropTree 44 = .ok (.ineg, 1) := by decide +kernel
theorem d_Trees_dropTree_45 : decode b_Trees_dropTree 45 = .ok (.invokevirtual 56, 3) := by decide +kernel
theorem d_Trees_dropTree_48 : decode b_Trees_dropTree 48 = .ok (.aload_n 0, 1) := by decide +kernel
theorem d_Trees_dropTree_49 : decode b_Trees_dropTree 49 = .ok (.getfield 24, 3) := by decide +kernel
theorem d_Trees_dropTree_52 : decode b_Trees_dropTree 52 = .ok (.bipush 6, 2) := by decide +kernel
theorem d_Trees_dropTree_54 : decode b_Trees_dropTree 54 = .ok (.iconst (-1), 1) := by decide +kernel
theorem d_Trees_dropTree_55 : decode b_Trees_dropTree 55 = .ok (.invokevirtual 56, 3) := by decide +kernel
theorem d_Trees_dropTree_58 : decode b_Trees_dropTree 58 = .ok (.iload_n 2, 1) := by decide +kernel
theorem d_Trees_dropTree_59 : decode b_Trees_dropTree 59 = .ok (.ireturn, 1) := by decide +kernel
theorem d_Trees_descend_0 : decode b_Trees_descend 0 = .ok (.aload_n 0, 1) := by decide +kernel
theorem d_Trees_descend_1 : decode b_Trees_descend 1 = .ok (.iload_n 1, 1) := by decide +kernel
theorem d_Trees_descend_2 : decode b_Trees_descend 2 = .ok (.invokevirtual 36, 3) := by decide +kernel
theorem d_Trees_descend_5 : decode b_Trees_descend 5 = .ok (.istore_n 3, 1) := by decide +kernel
theorem d_Trees_descend_6 : decode b_Trees_descend 6 = .ok (.aload_n 0, 1) := by decide +kernel
theorem d_Trees_descend_7 : decode b_Trees_descend 7 = .ok (.aload_n 0, 1) := by decide +kernel
theorem d_Trees_descend_8 : decode b_Trees_descend 8 = .ok (.getfield 28, 3) := by decide +kernel
theorem d_Trees_descend_11 : decode b_Trees_descend 11 = .ok (.iload_n 3, 1) := by decide +kernel
theorem d_Trees_descend_12 : decode b_Trees_descend 12 = .ok (.invokevirtual 62, 3) := by decide +kernel
theorem d_Trees_descend_15 : decode b_Trees_descend 15 = .ok (.putfield 20, 3) := by decide +kernel
theorem d_Trees_descend_18 : decode b_Trees_descend 18 = .ok (.aload_n 0, 1) := by decide +kernel
theorem d_Trees_descend_19 : decode b_Trees_descend 19 = .ok (.getfield 20, 3) := by decide +kernel
theorem d_Trees_descend_22 : decode b_Trees_descend 22 = .ok (.istore 4, 2) := by decide +kernel
theorem d_Trees_descend_24 : decode b_Trees_descend 24 = .ok (.iload 4, 2) := by decide +kernel
theorem d_Trees_descend_26 : decode b_Trees_descend 26 = .ok (.ifCond .le 53, 3) := by decide +kernel
theorem d_Trees_descend_29 : decode b_Trees_descend 29 = .ok (.aload_n 0, 1) := by decide +kernel
theorem d_Trees_descend_30 : decode b_Trees_descend 30 = .ok (.getfield 11, 3) := by decide +kernel
theorem d_Trees_descend_33 : decode b_Trees_descend 33 = .ok (.iload 4, 2) := by decide +kernel
theorem d_Trees_descend_35 : decode b_Trees_descend 35 = .ok (.iload_n 3, 1) := by decide +kernel
theorem d_Trees_descend_36 : decode b_Trees_descend 36 = .ok (.iastore, 1) := by decide +kernel
theorem d_Trees_descend_37 : decode b_Trees_descend 37 = .ok (.aload_n 0, 1) := by decide +kernel
theorem d_Trees_descend_38 : decode b_Trees_descend 38 = .ok (.getfield 17, 3) := by decide +kernel
theorem d_Trees_descend_41 : decode b_Trees_descend 41 = .ok (.iload 4, 2) := by decide +kernel
theorem d_Trees_descend_43 : decode b_Trees_descend 43 = .ok (.aload_n 0, 1) := by decide +kernel
theorem d_Trees_descend_44 : decode b_Trees_descend 44 = .ok (.iload_n 3, 1) := by decide +kernel
theorem d_Trees_descend_45 : decode b_Trees_descend 45 = .ok (.aload_n 2, 1) := by decide +kernel
theorem d_Trees_descend_46 : decode b_Trees_descend 46 = .ok (.iconst 1, 1) := by decide +kernel
theorem d_Trees_descend_47 : decode b_Trees_descend 47 = .ok (.invokevirtual 68, 3) := by decide +kernel
theorem d_Trees_descend_50 : decode b_Trees_descend 50 = .ok (.iconst 1, 1) := by decide +kernel
theorem d_Trees_descend_51 : decode b_Trees_descend 51 = .ok (.isub, 1) := by decide +kernel
theorem d_Trees_descend_52 : decode b_Trees_descend 52 = .ok (.iconst 0, 1) := by decide +kernel
theorem d_Trees_descend_53 : decode b_Trees_descend 53 = .ok (.invokestatic 72, 3) := by decide +kernel
theorem d_Trees_descend_56 : decode b_Trees_descend 56 = .ok (.iastore, 1) := by decide +kernel
theorem d_Trees_descend_57 : decode b_Trees_descend 57 = .ok (.aload_n 0, 1) := by decide +kernel
theorem d_Trees_descend_58 : decode b_Trees_descend 58 = .ok (.getfield 28, 3) := by decide +kernel
theorem d_Trees_descend_61 : decode b_Trees_descend 61 = .ok (.iload_n 3, 1) := by decide +kernel
theorem d_Trees_descend_62 : decode b_Trees_descend 62 = .ok (.aload_n 0, 1) := by decide +kernel
theorem d_Trees_descend_63 : decode b_Trees_descend 63 = .ok (.getfield 17, 3) := by decide +kernel
theorem d_Trees_descend_66 : decode b_Trees_descend 66 = .ok (.iload 4, 2) := by decide +kernel
theorem d_Trees_descend_68 : decode b_Trees_descend 68 = .ok (.iaload, 1) := by decide +kernel
theorem d_Trees_descend_69 : decode b_Trees_descend 69 = .ok (.invokevirtual 78, 3) := by decide +kernel
theorem d_Trees_descend_72 : decode b_Trees_descend 72 = .ok (.istore_n 3, 1) := by decide +kernel
theorem d_Trees_descend_73 : decode b_Trees_descend 73 = .ok (.iinc 4 (-1), 3) := by decide +kernel
theorem d_Trees_descend_76 : decode b_Trees_descend 76 = .ok (.goto (-52), 3) := by decide +kernel
theorem d_Trees_descend_79 : decode b_Trees_descend 79 = .ok (.aload_n 0, 1) := by decide +kernel
theorem d_Trees_descend_80 : decode b_Trees_descend 80 = .ok (.getfield 11, 3) := by decide +kernel
theorem d_Trees_descend_83 : decode b_Trees_descend 83 = .ok (.iconst 0, 1) := by decide +kernel
theorem d_Trees_descend_84 : decode b_Trees_descend 84 = .ok (.iload_n 3, 1) := by decide +kernel
theorem d_Trees_descend_85 : decode b_Trees_descend 85 = .ok (.iastore, 1) := by decide +kernel
theorem d_Trees_descend_86 : decode b_Trees_descend 86 = .ok (.aload_n 0, 1) := by decide +kernel
theorem d_Trees_descend_87 : decode b_Trees_descend 87 = .ok (.getfield 17, 3) := by decide +kernel
theorem d_Trees_descend_90 : decode b_Trees_descend 90 = .ok (.iconst 0, 1) := by decide +kernel
theorem d_Trees_descend_91 : decode b_Trees_descend 91 = .ok (.aload_n 0, 1) := by decide +kernel
theorem d_Trees_descend_92 : decode b_Trees_descend 92 = .ok (.iload_n 3, 1) := by decide +kernel
theorem d_Trees_descend_93 : decode b_Trees_descend 93 = .ok (.aload_n 2, 1) := by decide +kernel
theorem d_Trees_descend_94 : decode b_Trees_descend 94 = .ok (.iconst 0, 1) := by decide +kernel
theorem d_Trees_descend_95 : decode b_Trees_descend 95 = .ok (.invokevirtual 68, 3) := by decide +kernel
theorem d_Trees_descend_98 : decode b_Trees_descend 98 = .ok (.iastore, 1) := by decide +kernel
theorem d_Trees_descend_99 : decode b_Trees_descend 99 = .ok (.return_, 1) := by decide +kernel
theorem d_Trees_lookUp_0 : decode b_Trees_lookUp 0 = .ok (.aload_n 0, 1) := by decide +kernel
theorem d_Trees_lookUp_1 : decode b_Trees_lookUp 1 = .ok (.iload_n 1, 1) := by decide +kernel
theorem d_Trees_lookUp_2 : decode b_Trees_lookUp 2 = .ok (.aload_n 2, 1) := by decide +kernel
theorem d_Trees_lookUp_3 : decode b_Trees_lookUp 3 = .ok (.invokevirtual 81, 3) := by decide +kernel
theorem d_Trees_lookUp_6 : decode b_Trees_lookUp 6 = .ok (.aload_n 0, 1) := by decide +kernel
theorem d_Trees_lookUp_7 : decode b_Trees_lookUp 7 = .ok (.getfield 17, 3) := by decide +kernel
theorem d_Trees_lookUp_10 : decode b_Trees_lookUp 10 = .ok (.iconst 0, 1) := by decide +kernel
theorem d_Trees_lookUp_11 : decode b_Trees_lookUp 11 = .ok (.iaload, 1) := by decide +kernel
theorem d_Trees_lookUp_12 : decode b_Trees_lookUp 12 = .ok (.istore_n 3, 1) := by decide +kernel
theorem d_Trees_lookUp_13 : decode b_Trees_lookUp 13 = .ok (.iload_n 3, 1) := by decide +kernel
theorem d_Trees_lookUp_14 : decode b_Trees_lookUp 14 = .ok (.aload_n 0, 1) := by decide +kernel
theorem d_Trees_lookUp_15 : decode b_Trees_lookUp 15 = .ok (.getfield 28, 3) := by decide +kernel
theorem d_Trees_lookUp_18 : decode b_Trees_lookUp 18 = .ok (.aload_n 0, 1) := by decide +kernel
theorem d_Trees_lookUp_19 : decode b_Trees_lookUp 19 = .ok (.getfield 11, 3) := by decide +kernel
theorem d_Trees_lookUp_22 : decode b_Trees_lookUp 22 = .ok (.iconst 0, 1) := by decide +kernel
theorem d_Trees_lookUp_23 : decode b_Trees_lookUp 23 = .ok (.iaload, 1) := by decide +kernel
theorem d_Trees_lookUp_24 : decode b_Trees_lookUp 24 = .ok (.invokevirtual 85, 3) := by decide +kernel
theorem d_Trees_lookUp_27 : decode b_Trees_lookUp 27 = .ok (.if_icmp .lt 5, 3) := by decide +kernel
theorem d_Trees_lookUp_30 : decode b_Trees_lookUp 30 = .ok (.iconst 0, 1) := by decide +kernel
theorem d_Trees_lookUp_31 : decode b_Trees_lookUp 31 = .ok (.ireturn, 1) := by decide +kernel
theorem d_Trees_lookUp_32 : decode b_Trees_lookUp 32 = .ok (.aload_n 0, 1) := by decide +kernel
theorem d_Trees_lookUp_33 : decode b_Trees_lookUp 33 = .ok (.getfield 28, 3) := by decide +kernel
theorem d_Trees_lookUp_36 : decode b_Trees_lookUp 36 = .ok (.aload_n 0, 1) := by decide +kernel
theorem d_Trees_lookUp_37 : decode b_Trees_lookUp 37 = .ok (.getfield 11, 3) := by decide +kernel
theorem d_Trees_lookUp_40 : decode b_Trees_lookUp 40 = .ok (.iconst 0, 1) := by decide +kernel
theorem d_Trees_lookUp_41 : decode b_Trees_lookUp 41 = .ok (.iaload, 1) := by decide +kernel
theorem d_Trees_lookUp_42 : decode b_Trees_lookUp 42 = .ok (.iload_n 3, 1) := by decide +kernel
theorem d_Trees_lookUp_43 : decode b_Trees_lookUp 43 = .ok (.invokevirtual 78, 3) := by decide +kernel
theorem d_Trees_lookUp_46 : decode b_Trees_lookUp 46 = .ok (.istore 4, 2) := by decide +kernel
theorem d_Trees_lookUp_48 : decode b_Trees_lookUp 48 = .ok (.aload_n 0, 1) := by decide +kernel
theorem d_Trees_lookUp_49 : decode b_Trees_lookUp 49 = .ok (.getfield 32, 3) := by decide +kernel
theorem d_Trees_lookUp_52 : decode b_Trees_lookUp 52 = .ok (.aload_n 2, 1) := by decide +kernel
theorem d_Trees_lookUp_53 : decode b_Trees_lookUp 53 = .ok (.iload 4, 2) := by decide +kernel
theorem d_Trees_lookUp_55 : decode b_Trees_lookUp 55 = .ok (.invokevirtual 88, 3) := by decide +kernel
theorem d_Trees_lookUp_58 : decode b_Trees_lookUp 58 = .ok (.ifCond .ne 8, 3) := by decide +kernel
theorem d_Trees_lookUp_61 : decode b_Trees_lookUp 61 = .ok (.iload 4, 2) := by decide +kernel
theorem d_Trees_lookUp_63 : decode b_Trees_lookUp 63 = .ok (.goto 4, 3) := by decide +kernel
theorem d_Trees_lookUp_66 : decode b_Trees_lookUp 66 = .ok (.iconst 0, 1) := by decide +kernel
theorem d_Trees_lookUp_67 : decode b_Trees_lookUp 67 = .ok (.ireturn, 1) := by decide +kernel
theorem d_Trees_leadsTo_0 : decode b_Trees_leadsTo 0 = .ok (.aload_n 0, 1) := by decide +kernel
theorem d_Trees_leadsTo_1 : decode b_Trees_leadsTo 1 = .ok (.getfield 11, 3) := by decide +kernel
theorem d_Trees_leadsTo_4 : decode b_Trees_leadsTo 4 = .ok (.iconst 0, 1) := by decide +kernel
theorem d_Trees_leadsTo_5 : decode b_Trees_leadsTo 5 = .ok (.iaload, 1) := by decide +kernel
theorem d_Trees_leadsTo_6 : decode b_Trees_leadsTo 6 = .ok (.iload_n 1, 1) := by decide +kernel
theorem d_Trees_leadsTo_7 : decode b_Trees_leadsTo 7 = .ok (.if_icmp .ne 17, 3) := by decide +kernel
theorem d_Trees_leadsTo_10 : decode b_Trees_leadsTo 10 = .ok (.aload_n 0, 1) := by decide +kernel
theorem d_Trees_leadsTo_11 : decode b_Trees_leadsTo 11 = .ok (.getfield 17, 3) := by decide +kernel
theorem d_Trees_leadsTo_14 : decode b_Trees_leadsTo 14 = .ok (.iconst 0, 1) := by decide +kernel
theorem d_Trees_leadsTo_15 : decode b_Trees_leadsTo 15 = .ok (.iaload, 1) := by decide +kernel
theorem d_Trees_leadsTo_16 : decode b_Trees_leadsTo 16 = .ok (.iload_n 2, 1) := by decide +kernel
theorem d_Trees_leadsTo_17 : decode b_Trees_leadsTo 17 = .ok (.if_icmp .ne 7, 3) := by decide +kernel
theorem d_Trees_leadsTo_20 : decode b_Trees_leadsTo 20 = .ok (.iconst 1, 1) := by decide +kernel
theorem d_Trees_leadsTo_21 : decode b_Trees_leadsTo 21 = .ok (.goto 4, 3) := by decide +kernel
theorem d_Trees_leadsTo_24 : decode b_Trees_leadsTo 24 = .ok (.iconst 0, 1) := by decide +kernel
theorem d_Trees_leadsTo_25 : decode b_Trees_leadsTo 25 = .ok (.ireturn, 1) := by decide +kernel
theorem d_Trees_firstFrom_0 : decode b_Trees_firstFrom 0 = .ok (.aload_n 0, 1) := by decide +kernel
theorem d_Trees_firstFrom_1 : decode b_Trees_firstFrom 1 = .ok (.iload_n 1, 1) := by decide +kernel
theorem d_Trees_firstFrom_2 : decode b_Trees_firstFrom 2 = .ok (.aload_n 2, 1) := by decide +kernel
theorem d_Trees_firstFrom_3 : decode b_Trees_firstFrom 3 = .ok (.invokevirtual 81, 3) := by decide +kernel
theorem d_Trees_firstFrom_6 : decode b_Trees_firstFrom 6 = .ok (.aload_n 0, 1) := by decide +kernel
theorem d_Trees_firstFrom_7 : decode b_Trees_firstFrom 7 = .ok (.getfield 11, 3) := by decide +kernel
theorem d_Trees_firstFrom_10 : decode b_Trees_firstFrom 10 = .ok (.iconst 0, 1) := by decide +kernel
theorem d_Trees_firstFrom_11 : decode b_Trees_firstFrom 11 = .ok (.iaload, 1) := by decide +kernel
theorem d_Trees_firstFrom_12 : decode b_Trees_firstFrom 12 = .ok (.istore 4, 2) := by decide +kernel
theorem d_Trees_firstFrom_14 : decode b_Trees_firstFrom 14 = .ok (.iload_n 3, 1) := by decide +kernel
theorem d_Trees_firstFrom_15 : decode b_Trees_firstFrom 15 = .ok (.ifCond .eq 14, 3) := by decide +kernel
theorem d_Trees_firstFrom_18 : decode b_Trees_firstFrom 18 = .ok (.aload_n 0, 1) := by decide +kernel
theorem d_Trees_firstFrom_19 : decode b_Trees_firstFrom 19 = .ok (.iload 4, 2) := by decide +kernel
theorem d_Trees_firstFrom_21 : decode b_Trees_firstFrom 21 = .ok (.aload_n 2, 1) := by decide +kernel
theorem d_Trees_firstFrom_22 : decode b_Trees_firstFrom 22 = .ok (.iconst 1, 1) := by decide +kernel
theorem d_Trees_firstFrom_23 : decode b_Trees_firstFrom 23 = .ok (.invokevirtual 68, 3) := by decide +kernel
theorem d_Trees_firstFrom_26 : decode b_Trees_firstFrom 26 = .ok (.goto 9, 3) := by decide +kernel
theorem d_Trees_firstFrom_29 : decode b_Trees_firstFrom 29 = .ok (.aload_n 0, 1) := by decide +kernel
theorem d_Trees_firstFrom_30 : decode b_Trees_firstFrom 30 = .ok (.getfield 17, 3) := by decide +kernel
theorem d_Trees_firstFrom_33 : decode b_Trees_firstFrom 33 = .ok (.iconst 0, 1) := by decide +kernel
theorem d_Trees_firstFrom_34 : decode b_Trees_firstFrom 34 = .ok (.iaload, 1) := by decide +kernel
theorem d_Trees_firstFrom_35 : decode b_Trees_firstFrom 35 = .ok (.istore 5, 2) := by decide +kernel
theorem d_Trees_firstFrom_37 : decode b_Trees_firstFrom 37 = .ok (.iload 5, 2) := by decide +kernel
theorem d_Trees_firstFrom_39 : decode b_Trees_firstFrom 39 = .ok (.aload_n 0, 1) := by decide +kernel
theorem d_Trees_firstFrom_40 : decode b_Trees_firstFrom 40 = .ok (.getfield 28, 3) := by decide +kernel
theorem d_Trees_firstFrom_43 : decode b_Trees_firstFrom 43 = .ok (.iload 4, 2) := by decide +kernel
theorem d_Trees_firstFrom_45 : decode b_Trees_firstFrom 45 = .ok (.invokevirtual 85, 3) := by decide +kernel
theorem d_Trees_firstFrom_48 : decode b_Trees_firstFrom 48 = .ok (.if_icmp .ge 15, 3) := by decide +kernel
theorem d_Trees_firstFrom_51 : decode b_Trees_firstFrom 51 = .ok (.aload_n 0, 1) := by decide +kernel
theorem d_Trees_firstFrom_52 : decode b_Trees_firstFrom 52 = .ok (.getfield 28, 3) := by decide +kernel
theorem d_Trees_firstFrom_55 : decode b_Trees_firstFrom 55 = .ok (.iload 4, 2) := by decide +kernel
theorem d_Trees_firstFrom_57 : decode b_Trees_firstFrom 57 = .ok (.iload 5, 2) := by decide +kernel
theorem d_Trees_firstFrom_59 : decode b_Trees_firstFrom 59 = .ok (.invokevirtual 78, 3) := by decide +kernel
theorem d_Trees_firstFrom_62 : decode b_Trees_firstFrom 62 = .ok (.ireturn, 1) := by decide +kernel
theorem d_Trees_firstFrom_63 : decode b_Trees_firstFrom 63 = .ok (.iconst 1, 1) := by decide +kernel
theorem d_Trees_firstFrom_64 : decode b_Trees_firstFrom 64 = .ok (.istore 6, 2) := by decide +kernel
theorem d_Trees_firstFrom_66 : decode b_Trees_firstFrom 66 = .ok (.iload 6, 2) := by decide +kernel
theorem d_Trees_firstFrom_68 : decode b_Trees_firstFrom 68 = .ok (.aload_n 0, 1) := by decide +kernel
theorem d_Trees_firstFrom_69 : decode b_Trees_firstFrom 69 = .ok (.getfield 20, 3) := by decide +kernel
theorem d_Trees_firstFrom_72 : decode b_Trees_firstFrom 72 = .ok (.if_icmp .gt 65, 3) := by decide +kernel
theorem d_Trees_firstFrom_75 : decode b_Trees_firstFrom 75 = .ok (.aload_n 0, 1) := by decide +kernel
theorem d_Trees_firstFrom_76 : decode b_Trees_firstFrom 76 = .ok (.getfield 17, 3) := by decide +kernel
theorem d_Trees_firstFrom_79 : decode b_Trees_firstFrom 79 = .ok (.iload 6, 2) := by decide +kernel
theorem d_Trees_firstFrom_81 : decode b_Trees_firstFrom 81 = .ok (.iaload, 1) := by decide +kernel
theorem d_Trees_firstFrom_82 : decode b_Trees_firstFrom 82 = .ok (.iconst 1, 1) := by decide +kernel
theorem d_Trees_firstFrom_83 : decode b_Trees_firstFrom 83 = .ok (.iadd, 1) := by decide +kernel
theorem d_Trees_firstFrom_84 : decode b_Trees_firstFrom 84 = .ok (.istore 7, 2) := by decide +kernel
theorem d_Trees_firstFrom_86 : decode b_Trees_firstFrom 86 = .ok (.iload 7, 2) := by decide +kernel
theorem d_Trees_firstFrom_88 : decode b_Trees_firstFrom 88 = .ok (.aload_n 0, 1) := by decide +kernel
theorem d_Trees_firstFrom_89 : decode b_Trees_firstFrom 89 = .ok (.getfield 28, 3) := by decide +kernel
theorem d_Trees_firstFrom_92 : decode b_Trees_firstFrom 92 = .ok (.aload_n 0, 1) := by decide +kernel
theorem d_Trees_firstFrom_93 : decode b_Trees_firstFrom 93 = .ok (.getfield 11, 3) := by decide +kernel
theorem d_Trees_firstFrom_96 : decode b_Trees_firstFrom 96 = .ok (.iload 6, 2) := by decide +kernel
theorem d_Trees_firstFrom_98 : decode b_Trees_firstFrom 98 = .ok (.iaload, 1) := by decide +kernel
theorem d_Trees_firstFrom_99 : decode b_Trees_firstFrom 99 = .ok (.invokevirtual 85, 3) := by decide +kernel
theorem d_Trees_firstFrom_102 : decode b_Trees_firstFrom 102 = .ok (.if_icmp .ge 29, 3) := by decide +kernel
theorem d_Trees_firstFrom_105 : decode b_Trees_firstFrom 105 = .ok (.aload_n 0, 1) := by decide +kernel
theorem d_Trees_firstFrom_106 : decode b_Trees_firstFrom 106 = .ok (.getfield 28, 3) := by decide +kernel
theorem d_Trees_firstFrom_109 : decode b_Trees_firstFrom 109 = .ok (.aload_n 0, 1) := by decide +kernel
theorem d_Trees_firstFrom_110 : decode b_Trees_firstFrom 110 = .ok (.getfield 28, 3) := by decide +kernel
theorem d_Trees_firstFrom_113 : decode b_Trees_firstFrom 113 = .ok (.aload_n 0, 1) := by decide +kernel
theorem d_Trees_firstFrom_114 : decode b_Trees_firstFrom 114 = .ok (.getfield 11, 3) := by decide +kernel
theorem d_Trees_firstFrom_117 : decode b_Trees_firstFrom 117 = .ok (.iload 6, 2) := by decide +kernel
theorem d_Trees_firstFrom_119 : decode b_Trees_firstFrom 119 = .ok (.iaload, 1) := by decide +kernel
theorem d_Trees_firstFrom_120 : decode b_Trees_firstFrom 120 = .ok (.iload 7, 2) := by decide +kernel
theorem d_Trees_firstFrom_122 : decode b_Trees_firstFrom 122 = .ok (.invokevirtual 78, 3) := by decide +kernel
theorem d_Trees_firstFrom_125 : decode b_Trees_firstFrom 125 = .ok (.iload 6, 2) := by decide +kernel
theorem d_Trees_firstFrom_127 : decode b_Trees_firstFrom 127 = .ok (.invokevirtual 94, 3) := by decide +kernel
theorem d_Trees_firstFrom_130 : decode b_Trees_firstFrom 130 = .ok (.ireturn, 1) := by decide +kernel
theorem d_Trees_firstFrom_131 : decode b_Trees_firstFrom 131 = .ok (.iinc 6 1, 3) := by decide +kernel
theorem d_Trees_firstFrom_134 : decode b_Trees_firstFrom 134 = .ok (.goto (-68), 3) := by decide +kernel
theorem d_Trees_firstFrom_137 : decode b_Trees_firstFrom 137 = .ok (.iconst 0, 1) := by decide +kernel
theorem d_Trees_firstFrom_138 : decode b_Trees_firstFrom 138 = .ok (.ireturn, 1) := by decide +kernel
theorem d_Trees_replaceHere_0 : decode b_Trees_replaceHere 0 = .ok (.aload_n 0, 1) := by decide +kernel
theorem d_Trees_replaceHere_1 : decode b_Trees_replaceHere 1 = .ok (.getfield 28, 3) := by decide +kernel
theorem d_Trees_replaceHere_4 : decode b_Trees_replaceHere 4 = .ok (.aload_n 0, 1) := by decide +kernel
theorem d_Trees_replaceHere_5 : decode b_Trees_replaceHere 5 = .ok (.getfield 11, 3) := by decide +kernel
theorem d_Trees_replaceHere_8 : decode b_Trees_replaceHere 8 = .ok (.iconst 0, 1) := by decide +kernel
theorem d_Trees_replaceHere_9 : decode b_Trees_replaceHere 9 = .ok (.iaload, 1) := by decide +kernel
theorem d_Trees_replaceHere_10 : decode b_Trees_replaceHere 10 = .ok (.aload_n 0, 1) := by decide +kernel
theorem d_Trees_replaceHere_11 : decode b_Trees_replaceHere 11 = .ok (.getfield 17, 3) := by decide +kernel
theorem d_Trees_replaceHere_14 : decode b_Trees_replaceHere 14 = .ok (.iconst 0, 1) := by decide +kernel
theorem d_Trees_replaceHere_15 : decode b_Trees_replaceHere 15 = .ok (.iaload, 1) := by decide +kernel
theorem d_Trees_replaceHere_16 : decode b_Trees_replaceHere 16 = .ok (.invokevirtual 78, 3) := by decide +kernel
theorem d_Trees_replaceHere_19 : decode b_Trees_replaceHere 19 = .ok (.istore_n 3, 1) := by decide +kernel
theorem d_Trees_replaceHere_20 : decode b_Trees_replaceHere 20 = .ok (.aload_n 0, 1) := by decide +kernel
theorem d_Trees_replaceHere_21 : decode b_Trees_replaceHere 21 = .ok (.getfield 24, 3) := by decide +kernel
theorem d_Trees_replaceHere_24 : decode b_Trees_replaceHere 24 = .ok (.bipush 8, 2) := by decide +kernel
theorem d_Trees_replaceHere_26 : decode b_Trees_replaceHere 26 = .ok (.aload_n 0, 1) := by decide +kernel
theorem d_Trees_replaceHere_27 : decode b_Trees_replaceHere 27 = .ok (.getfield 32, 3) := by decide +kernel
theorem d_Trees_replaceHere_30 : decode b_Trees_replaceHere 30 = .ok (.iload_n 3, 1) := by decide +kernel
theorem d_Trees_replaceHere_31 : decode b_Trees_replaceHere 31 = .ok (.invokevirtual 97, 3) := by decide +kernel
theorem d_Trees_replaceHere_34 : decode b_Trees_replaceHere 34 = .ok (.ineg, 1) := by decide +kernel
theorem d_Trees_replaceHere_35 : decode b_Trees_replaceHere 35 = .ok (.invokevirtual 56, 3) := by decide +kernel
theorem d_Trees_replaceHere_38 : decode b_Trees_replaceHere 38 = .ok (.aload_n 0, 1) := by decide +kernel
theorem d_Trees_replaceHere_39 : decode b_Trees_replaceHere 39 = .ok (.getfield 32, 3) := by decide +kernel
theorem d_Trees_replaceHere_42 : decode b_Trees_replaceHere 42 = .ok (.iload_n 3, 1) := by decide +kernel
theorem d_Trees_replaceHere_43 : decode b_Trees_replaceHere 43 = .ok (.invokevirtual 100, 3) := by decide +kernel
theorem d_Trees_replaceHere_46 : decode b_Trees_replaceHere 46 = .ok (.aload_n 0, 1) := by decide +kernel
theorem d_Trees_replaceHere_47 : decode b_Trees_replaceHere 47 = .ok (.getfield 32, 3) := by decide +kernel
theorem d_Trees_replaceHere_50 : decode b_Trees_replaceHere 50 = .ok (.aload_n 1, 1) := by decide +kernel
theorem d_Trees_replaceHere_51 : decode b_Trees_replaceHere 51 = .ok (.aload_n 2, 1) := by decide +kernel
theorem d_Trees_replaceHere_52 : decode b_Trees_replaceHere 52 = .ok (.invokevirtual 103, 3) := by decide +kernel
theorem d_Trees_replaceHere_55 : decode b_Trees_replaceHere 55 = .ok (.istore 4, 2) := by decide +kernel
theorem d_Trees_replaceHere_57 : decode b_Trees_replaceHere 57 = .ok (.aload_n 0, 1) := by decide +kernel
theorem d_Trees_replaceHere_58 : decode b_Trees_replaceHere 58 = .ok (.getfield 24, 3) := by decide +kernel
theorem d_Trees_replaceHere_61 : decode b_Trees_replaceHere 61 = .ok (.bipush 8, 2) := by decide +kernel
theorem d_Trees_replaceHere_63 : decode b_Trees_replaceHere 63 = .ok (.aload_n 0, 1) := by decide +kernel
theorem d_Trees_replaceHere_64 : decode b_Trees_replaceHere 64 = .ok (.getfield 32, 3) := by decide +kernel
theorem d_Trees_replaceHere_67 : decode b_Trees_replaceHere 67 = .ok (.iload 4, 2) := by decide +kernel
theorem d_Trees_replaceHere_69 : decode b_Trees_replaceHere 69 = .ok (.invokevirtual 97, 3) := by decide +kernel
theorem d_Trees_replaceHere_72 : decode b_Trees_replaceHere 72 = .ok (.invokevirtual 56, 3) := by decide +kernel
theorem d_Trees_replaceHere_75 : decode b_Trees_replaceHere 75 = .ok (.aload_n 0, 1) := by decide +kernel
theorem d_Trees_replaceHere_76 : decode b_Trees_replaceHere 76 = .ok (.getfield 28, 3) := by decide +kernel
theorem d_Trees_replaceHere_79 : decode b_Trees_replaceHere 79 = .ok (.aload_n 0, 1) := by decide +kernel
theorem d_Trees_replaceHere_80 : decode b_Trees_replaceHere 80 = .ok (.getfield 11, 3) := by decide +kernel
theorem d_Trees_replaceHere_83 : decode b_Trees_replaceHere 83 = .ok (.iconst 0, 1) := by decide +kernel
theorem d_Trees_replaceHere_84 : decode b_Trees_replaceHere 84 = .ok (.iaload, 1) := by decide +kernel
theorem d_Trees_replaceHere_85 : decode b_Trees_replaceHere 85 = .ok (.aload_n 0, 1) := by decide +kernel
theorem d_Trees_replaceHere_86 : decode b_Trees_replaceHere 86 = .ok (.getfield 17, 3) := by decide +kernel
theorem d_Trees_replaceHere_89 : decode b_Trees_replaceHere 89 = .ok (.iconst 0, 1) := by decide +kernel
theorem d_Trees_replaceHere_90 : decode b_Trees_replaceHere 90 = .ok (.iaload, 1) := by decide +kernel
theorem d_Trees_replaceHere_91 : decode b_Trees_replaceHere 91 = .ok (.iload 4, 2) := by decide +kernel
theorem d_Trees_replaceHere_93 : decode b_Trees_replaceHere 93 = .ok (.invokevirtual 107, 3) := by decide +kernel
theorem d_Trees_replaceHere_96 : decode b_Trees_replaceHere 96 = .ok (.return_, 1) := by decide +kernel
theorem d_Trees_insertHere_0 : decode b_Trees_insertHere 0 = .ok (.aload_n 0, 1) := by decide +kernel
theorem d_Trees_insertHere_1 : decode b_Trees_insertHere 1 = .ok (.getfield 32, 3) := by decide +kernel
theorem d_Trees_insertHere_4 : decode b_Trees_insertHere 4 = .ok (.aload_n 2, 1) := by decide +kernel
theorem d_Trees_insertHere_5 : decode b_Trees_insertHere 5 = .ok (.aload_n 3, 1) := by decide +kernel
theorem d_Trees_insertHere_6 : decode b_Trees_insertHere 6 = .ok (.invokevirtual 103, 3) := by decide +kernel
theorem d_Trees_insertHere_9 : decode b_Trees_insertHere 9 = .ok (.istore 4, 2) := by decide +kernel
theorem d_Trees_insertHere_11 : decode b_Trees_insertHere 11 = .ok (.aload_n 0, 1) := by decide +kernel
theorem d_Trees_insertHere_12 : decode b_Trees_insertHere 12 = .ok (.getfield 24, 3) := by decide +kernel
theorem d_Trees_insertHere_15 : decode b_Trees_insertHere 15 = .ok (.bipush 8, 2) := by decide +kernel
theorem d_Trees_insertHere_17 : decode b_Trees_insertHere 17 = .ok (.aload_n 0, 1) := by decide +kernel
theorem d_Trees_insertHere_18 : decode b_Trees_insertHere 18 = .ok (.getfield 32, 3) := by decide +kernel
theorem d_Trees_insertHere_21 : decode b_Trees_insertHere 21 = .ok (.iload 4, 2) := by decide +kernel
theorem d_Trees_insertHere_23 : decode b_Trees_insertHere 23 = .ok (.invokevirtual 97, 3) := by decide +kernel
theorem d_Trees_insertHere_26 : decode b_Trees_insertHere 26 = .ok (.invokevirtual 56, 3) := by decide +kernel
theorem d_Trees_insertHere_29 : decode b_Trees_insertHere 29 = .ok (.aload_n 0, 1) := by decide +kernel
theorem d_Trees_insertHere_30 : decode b_Trees_insertHere 30 = .ok (.getfield 24, 3) := by decide +kernel
theorem d_Trees_insertHere_33 : decode b_Trees_insertHere 33 = .ok (.bipush 32, 2) := by decide +kernel
theorem d_Trees_insertHere_35 : decode b_Trees_insertHere 35 = .ok (.iconst 4, 1) := by decide +kernel
theorem d_Trees_insertHere_36 : decode b_Trees_insertHere 36 = .ok (.iload_n 1, 1) := by decide +kernel
theorem d_Trees_insertHere_37 : decode b_Trees_insertHere 37 = .ok (.imul, 1) := by decide +kernel
theorem d_Trees_insertHere_38 : decode b_Trees_insertHere 38 = .ok (.iadd, 1) := by decide +kernel
theorem d_Trees_insertHere_39 : decode b_Trees_insertHere 39 = .ok (.iconst 2, 1) := by decide +kernel
theorem d_Trees_insertHere_40 : decode b_Trees_insertHere 40 = .ok (.iadd, 1) := by decide +kernel
theorem d_Trees_insertHere_41 : decode b_Trees_insertHere 41 = .ok (.iconst 1, 1) := by decide +kernel
theorem d_Trees_insertHere_42 : decode b_Trees_insertHere 42 = .ok (.invokevirtual 56, 3) := by decide +kernel
theorem d_Trees_insertHere_45 : decode b_Trees_insertHere 45 = .ok (.aload_n 0, 1) := by decide +kernel
theorem d_Trees_insertHere_46 : decode b_Trees_insertHere 46 = .ok (.iload_n 1, 1) := by decide +kernel
theorem d_Trees_insertHere_47 : decode b_Trees_insertHere 47 = .ok (.iload 4, 2) := by decide +kernel
theorem d_Trees_insertHere_49 : decode b_Trees_insertHere 49 = .ok (.invokevirtual 111, 3) := by decide +kernel
theorem d_Trees_insertHere_52 : decode b_Trees_insertHere 52 = .ok (.return_, 1) := by decide +kernel
theorem d_Trees_deleteHere_0 : decode b_Trees_deleteHere 0 = .ok (.aload_n 0, 1) := by decide +kernel
theorem d_Trees_deleteHere_1 : decode b_Trees_deleteHere 1 = .ok (.getfield 28, 3) := by decide +kernel
theorem d_Trees_deleteHere_4 : decode b_Trees_deleteHere 4 = .ok (.aload_n 0, 1) := by decide +kernel
theorem d_Trees_deleteHere_5 : decode b_Trees_deleteHere 5 = .ok (.getfield 11, 3) := by decide +kernel
theorem d_Trees_deleteHere_8 : decode b_Trees_deleteHere 8 = .ok (.iconst 0, 1) := by decide +kernel
theorem d_Trees_deleteHere_9 : decode b_Trees_deleteHere 9 = .ok (.iaload, 1) := by decide +kernel
theorem d_Trees_deleteHere_10 : decode b_Trees_deleteHere 10 = .ok (.aload_n 0, 1) := by decide +kernel
theorem d_Trees_deleteHere_11 : decode b_Trees_deleteHere 11 = .ok (.getfield 17, 3) := by decide +kernel
theorem d_Trees_deleteHere_14 : decode b_Trees_deleteHere 14 = .ok (.iconst 0, 1) := by decide +kernel
theorem d_Trees_deleteHere_15 : decode b_Trees_deleteHere 15 = .ok (.iaload, 1) := by decide +kernel
theorem d_Trees_deleteHere_16 : decode b_Trees_deleteHere 16 = .ok (.invokevirtual 78, 3) := by decide +kernel
theorem d_Trees_deleteHere_19 : decode b_Trees_deleteHere 19 = .ok (.istore_n 2, 1) := by decide +kernel
theorem d_Trees_deleteHere_20 : decode b_Trees_deleteHere 20 = .ok (.aload_n 0, 1) := by decide +kernel
theorem d_Trees_deleteHere_21 : decode b_Trees_deleteHere 21 = .ok (.getfield 24, 3) := by decide +kernel
theorem d_Trees_deleteHere_24 : decode b_Trees_deleteHere 24 = .ok (.bipush 8, 2) := by decide +kernel
theorem d_Trees_deleteHere_26 : decode b_Trees_deleteHere 26 = .ok (.aload_n 0, 1) := by decide +kernel
theorem d_Trees_deleteHere_27 : decode b_Trees_deleteHere 27 = .ok (.getfield 32, 3) := by decide +kernel
theorem d_Trees_deleteHere_30 : decode b_Trees_deleteHere 30 = .ok (.iload_n 2, 1) := by decide +kernel
theorem d_Trees_deleteHere_31 : decode b_Trees_deleteHere 31 = .ok (.invokevirtual 97, 3) := by decide +kernel
theorem d_Trees_deleteHere_34 : decode b_Trees_deleteHere 34 = .ok (.ineg, 1) := by decide +kernel
theorem d_Trees_deleteHere_35 : decode b_Trees_deleteHere 35 = .ok (.invokevirtual 56, 3) := by decide +kernel
theorem d_Trees_deleteHere_38 : decode b_Trees_deleteHere 38 = .ok (.aload_n 0, 1) := by decide +kernel
theorem d_Trees_deleteHere_39 : decode b_Trees_deleteHere 39 = .ok (.getfield 24, 3) := by decide +kernel
theorem d_Trees_deleteHere_42 : decode b_Trees_deleteHere 42 = .ok (.bipush 32, 2) := by decide +kernel
theorem d_Trees_deleteHere_44 : decode b_Trees_deleteHere 44 = .ok (.iconst 4, 1) := by decide +kernel
theorem d_Trees_deleteHere_45 : decode b_Trees_deleteHere 45 = .ok (.iload_n 1, 1) := by decide +kernel
theorem d_Trees_deleteHere_46 : decode b_Trees_deleteHere 46 = .ok (.imul, 1) := by decide +kernel
theorem d_Trees_deleteHere_47 : decode b_Trees_deleteHere 47 = .ok (.iadd, 1) := by decide +kernel
theorem d_Trees_deleteHere_48 : decode b_Trees_deleteHere 48 = .ok (.iconst 2, 1) := by decide +kernel
theorem d_Trees_deleteHere_49 : decode b_Trees_deleteHere 49 = .ok (.iadd, 1) := by decide +kernel
theorem d_Trees_deleteHere_50 : decode b_Trees_deleteHere 50 = .ok (.iconst (-1), 1) := by decide +kernel
theorem d_Trees_deleteHere_51 : decode b_Trees_deleteHere 51 = .ok (.invokevirtual 56, 3) := by decide +kernel
theorem d_Trees_deleteHere_54 : decode b_Trees_deleteHere 54 = .ok (.aload_n 0, 1) := by decide +kernel
theorem d_Trees_deleteHere_55 : decode b_Trees_deleteHere 55 = .ok (.getfield 32, 3) := by decide +kernel
theorem d_Trees_deleteHere_58 : decode b_Trees_deleteHere 58 = .ok (.iload_n 2, 1) := by decide +kernel
theorem d_Trees_deleteHere_59 : decode b_Trees_deleteHere 59 = .ok (.invokevirtual 100, 3) := by decide +kernel
theorem d_Trees_deleteHere_62 : decode b_Trees_deleteHere 62 = .ok (.aload_n 0, 1) := by decide +kernel
theorem d_Trees_deleteHere_63 : decode b_Trees_deleteHere 63 = .ok (.getfield 28, 3) := by decide +kernel
theorem d_Trees_deleteHere_66 : decode b_Trees_deleteHere 66 = .ok (.aload_n 0, 1) := by decide +kernel
theorem d_Trees_deleteHere_67 : decode b_Trees_deleteHere 67 = .ok (.getfield 11, 3) := by decide +kernel
theorem d_Trees_deleteHere_70 : decode b_Trees_deleteHere 70 = .ok (.iconst 0, 1) := by decide +kernel
theorem d_Trees_deleteHere_71 : decode b_Trees_deleteHere 71 = .ok (.iaload, 1) := by decide +kernel
theorem d_Trees_deleteHere_72 : decode b_Trees_deleteHere 72 = .ok (.aload_n 0, 1) := by decide +kernel
theorem d_Trees_deleteHere_73 : decode b_Trees_deleteHere 73 = .ok (.getfield 17, 3) := by decide +kernel
theorem d_Trees_deleteHere_76 : decode b_Trees_deleteHere 76 = .ok (.iconst 0, 1) := by decide +kernel
theorem d_Trees_deleteHere_77 : decode b_Trees_deleteHere 77 = .ok (.iaload, 1) := by decide +kernel
theorem d_Trees_deleteHere_78 : decode b_Trees_deleteHere 78 = .ok (.invokevirtual 114, 3) := by decide +kernel
theorem d_Trees_deleteHere_81 : decode b_Trees_deleteHere 81 = .ok (.aload_n 0, 1) := by decide +kernel
theorem d_Trees_deleteHere_82 : decode b_Trees_deleteHere 82 = .ok (.invokevirtual 117, 3) := by decide +kernel
theorem d_Trees_deleteHere_85 : decode b_Trees_deleteHere 85 = .ok (.aload_n 0, 1) := by decide +kernel
theorem d_Trees_deleteHere_86 : decode b_Trees_deleteHere 86 = .ok (.iload_n 1, 1) := by decide +kernel
theorem d_Trees_deleteHere_87 : decode b_Trees_deleteHere 87 = .ok (.invokevirtual 120, 3) := by decide +kernel
theorem d_Trees_deleteHere_90 : decode b_Trees_deleteHere 90 = .ok (.return_, 1) := by decide +kernel
theorem d_Trees_setRoot_0 : decode b_Trees_setRoot 0 = .ok (.aload_n 0, 1) := by decide +kernel
theorem d_Trees_setRoot_1 : decode b_Trees_setRoot 1 = .ok (.getfield 24, 3) := by decide +kernel
theorem d_Trees_setRoot_4 : decode b_Trees_setRoot 4 = .ok (.bipush 32, 2) := by decide +kernel
theorem d_Trees_setRoot_6 : decode b_Trees_setRoot 6 = .ok (.iconst 4, 1) := by decide +kernel
theorem d_Trees_setRoot_7 : decode b_Trees_setRoot 7 = .ok (.iload_n 1, 1) := by decide +kernel
theorem d_Trees_setRoot_8 : decode b_Trees_setRoot 8 = .ok (.imul, 1) := by decide +kernel
theorem d_Trees_setRoot_9 : decode b_Trees_setRoot 9 = .ok (.iadd, 1) := by decide +kernel
theorem d_Trees_setRoot_10 : decode b_Trees_setRoot 10 = .ok (.iload_n 2, 1) := by decide +kernel
theorem d_Trees_setRoot_11 : decode b_Trees_setRoot 11 = .ok (.invokevirtual 123, 3) := by decide +kernel
theorem d_Trees_setRoot_14 : decode b_Trees_setRoot 14 = .ok (.return_, 1) := by decide +kernel
theorem d_Trees_rank_0 : decode b_Trees_rank 0 = .ok (.aload_n 0, 1) := by decide +kernel
theorem d_Trees_rank_1 : decode b_Trees_rank 1 = .ok (.getfield 28, 3) := by decide +kernel
theorem d_Trees_rank_4 : decode b_Trees_rank 4 = .ok (.iload_n 1, 1) := by decide +kernel
theorem d_Trees_rank_5 : decode b_Trees_rank 5 = .ok (.invokevirtual 62, 3) := by decide +kernel
theorem d_Trees_rank_8 : decode b_Trees_rank 8 = .ok (.istore 4, 2) := by decide +kernel
theorem d_Trees_rank_10 : decode b_Trees_rank 10 = .ok (.iconst 0, 1) := by decide +kernel
theorem d_Trees_rank_11 : decode b_Trees_rank 11 = .ok (.istore 5, 2) := by decide +kernel
theorem d_Trees_rank_13 : decode b_Trees_rank 13 = .ok (.aload_n 0, 1) := by decide +kernel
theorem d_Trees_rank_14 : decode b_Trees_rank 14 = .ok (.getfield 28, 3) := by decide +kernel
theorem d_Trees_rank_17 : decode b_Trees_rank 17 = .ok (.iload_n 1, 1) := by decide +kernel
theorem d_Trees_rank_18 : decode b_Trees_rank 18 = .ok (.invokevirtual 85, 3) := by decide +kernel
theorem d_Trees_rank_21 : decode b_Trees_rank 21 = .ok (.istore 6, 2) := by decide +kernel
theorem d_Trees_rank_23 : decode b_Trees_rank 23 = .ok (.iconst 0, 1) := by decide +kernel
theorem d_Trees_rank_24 : decode b_Trees_rank 24 = .ok (.istore 7, 2) := by decide +kernel
theorem d_Trees_rank_26 : decode b_Trees_rank 26 = .ok (.iload 7, 2) := by decide +kernel
theorem d_Trees_rank_28 : decode b_Trees_rank 28 = .ok (.bipush 14, 2) := by decide +kernel
theorem d_Trees_rank_30 : decode b_Trees_rank 30 = .ok (.if_icmp .ge 81, 3) := by decide +kernel
theorem d_Trees_rank_33 : decode b_Trees_rank 33 = .ok (.iload 5, 2) := by decide +kernel
theorem d_Trees_rank_35 : decode b_Trees_rank 35 = .ok (.iload 6, 2) := by decide +kernel
theorem d_Trees_rank_37 : decode b_Trees_rank 37 = .ok (.if_icmp .ge 74, 3) := by decide +kernel
theorem d_Trees_rank_40 : decode b_Trees_rank 40 = .ok (.iload 5, 2) := by decide +kernel
theorem d_Trees_rank_42 : decode b_Trees_rank 42 = .ok (.iload 6, 2) := by decide +kernel
theorem d_Trees_rank_44 : decode b_Trees_rank 44 = .ok (.iadd, 1) := by decide +kernel
theorem d_Trees_rank_45 : decode b_Trees_rank 45 = .ok (.iconst 2, 1) := by decide +kernel
theorem d_Trees_rank_46 : decode b_Trees_rank 46 = .ok (.idiv, 1) := by decide +kernel
theorem d_Trees_rank_47 : decode b_Trees_rank 47 = .ok (.istore 8, 2) := by decide +kernel
theorem d_Trees_rank_49 : decode b_Trees_rank 49 = .ok (.aload_n 0, 1) := by decide +kernel
theorem d_Trees_rank_50 : decode b_Trees_rank 50 = .ok (.getfield 32, 3) := by decide +kernel
theorem d_Trees_rank_53 : decode b_Trees_rank 53 = .ok (.aload_n 2, 1) := by decide +kernel
theorem d_Trees_rank_54 : decode b_Trees_rank 54 = .ok (.aload_n 0, 1) := by decide +kernel
theorem d_Trees_rank_55 : decode b_Trees_rank 55 = .ok (.getfield 28, 3) := by decide +kernel
theorem d_Trees_rank_58 : decode b_Trees_rank 58 = .ok (.aload_n 0, 1) := by decide +kernel
theorem d_Trees_rank_59 : decode b_Trees_rank 59 = .ok (.getfield 28, 3) := by decide +kernel
theorem d_Trees_rank_62 : decode b_Trees_rank 62 = .ok (.iload_n 1, 1) := by decide +kernel
theorem d_Trees_rank_63 : decode b_Trees_rank 63 = .ok (.iload 8, 2) := by decide +kernel
theorem d_Trees_rank_65 : decode b_Trees_rank 65 = .ok (.invokevirtual 78, 3) := by decide +kernel
theorem d_Trees_rank_68 : decode b_Trees_rank 68 = .ok (.iload 4, 2) := by decide +kernel
theorem d_Trees_rank_70 : decode b_Trees_rank 70 = .ok (.invokevirtual 94, 3) := by decide +kernel
theorem d_Trees_rank_73 : decode b_Trees_rank 73 = .ok (.invokevirtual 88, 3) := by decide +kernel
theorem d_Trees_rank_76 : decode b_Trees_rank 76 = .ok (.istore 9, 2) := by decide +kernel
theorem d_Trees_rank_78 : decode b_Trees_rank 78 = .ok (.iload 9, 2) := by decide +kernel
theorem d_Trees_rank_80 : decode b_Trees_rank 80 = .ok (.ifCond .gt 12, 3) := by decide +kernel
theorem d_Trees_rank_83 : decode b_Trees_rank 83 = .ok (.iload 9, 2) := by decide +kernel
theorem d_Trees_rank_85 : decode b_Trees_rank 85 = .ok (.ifCond .ne 16, 3) := by decide +kernel
theorem d_Trees_rank_88 : decode b_Trees_rank 88 = .ok (.iload_n 3, 1) := by decide +kernel
theorem d_Trees_rank_89 : decode b_Trees_rank 89 = .ok (.ifCond .eq 12, 3) := by decide +kernel
theorem d_Trees_rank_92 : decode b_Trees_rank 92 = .ok (.iload 8, 2) := by decide +kernel
theorem d_Trees_rank_94 : decode b_Trees_rank 94 = .ok (.iconst 1, 1) := by decide +kernel
theorem d_Trees_rank_95 : decode b_Trees_rank 95 = .ok (.iadd, 1) := by decide +kernel
theorem d_Trees_rank_96 : decode b_Trees_rank 96 = .ok (.istore 5, 2) := by decide +kernel
theorem d_Trees_rank_98 : decode b_Trees_rank 98 = .ok (.goto 7, 3) := by decide +kernel
theorem d_Trees_rank_101 : decode b_Trees_rank 101 = .ok (.iload 8, 2) := by decide +kernel
theorem d_Trees_rank_103 : decode b_Trees_rank 103 = .ok (.istore 6, 2) := by decide +kernel
theorem d_Trees_rank_105 : decode b_Trees_rank 105 = .ok (.iinc 7 1, 3) := by decide +kernel
theorem d_Trees_rank_108 : decode b_Trees_rank 108 = .ok (.goto (-82), 3) := by decide +kernel
theorem d_Trees_rank_111 : decode b_Trees_rank 111 = .ok (.iload 5, 2) := by decide +kernel
theorem d_Trees_rank_113 : decode b_Trees_rank 113 = .ok (.ireturn, 1) := by decide +kernel
theorem d_Trees_insertSlot_0 : decode b_Trees_insertSlot 0 = .ok (.iload_n 2, 1) := by decide +kernel
theorem d_Trees_insertSlot_1 : decode b_Trees_insertSlot 1 = .ok (.istore_n 3, 1) := by decide +kernel
theorem d_Trees_insertSlot_2 : decode b_Trees_insertSlot 2 = .ok (.aload_n 0, 1) := by decide +kernel
theorem d_Trees_insertSlot_3 : decode b_Trees_insertSlot 3 = .ok (.getfield 17, 3) := by decide +kernel
theorem d_Trees_insertSlot_6 : decode b_Trees_insertSlot 6 = .ok (.iconst 0, 1) := by decide +kernel
theorem d_Trees_insertSlot_7 : decode b_Trees_insertSlot 7 = .ok (.iaload, 1) := by decide +kernel
theorem d_Trees_insertSlot_8 : decode b_Trees_insertSlot 8 = .ok (.istore 4, 2) := by decide +kernel
theorem d_Trees_insertSlot_10 : decode b_Trees_insertSlot 10 = .ok (.iconst 0, 1) := by decide +kernel
theorem d_Trees_insertSlot_11 : decode b_Trees_insertSlot 11 = .ok (.istore 5, 2) := by decide +kernel
theorem d_Trees_insertSlot_13 : decode b_Trees_insertSlot 13 = .ok (.iload 5, 2) := by decide +kernel
theorem d_Trees_insertSlot_15 : decode b_Trees_insertSlot 15 = .ok (.aload_n 0, 1) := by decide +kernel
theorem d_Trees_insertSlot_16 : decode b_Trees_insertSlot 16 = .ok (.getfield 20, 3) := by decide +kernel
theorem d_Trees_insertSlot_19 : decode b_Trees_insertSlot 19 = .ok (.if_icmp .gt 118, 3) := by decide +kernel
theorem d_Trees_insertSlot_22 : decode b_Trees_insertSlot 22 = .ok (.aload_n 0, 1) := by decide +kernel
theorem d_Trees_insertSlot_23 : decode b_Trees_insertSlot 23 = .ok (.getfield 11, 3) := by decide +kernel
theorem d_Trees_insertSlot_26 : decode b_Trees_insertSlot 26 = .ok (.iload 5, 2) := by decide +kernel
theorem d_Trees_insertSlot_28 : decode b_Trees_insertSlot 28 = .ok (.iaload, 1) := by decide +kernel
theorem d_Trees_insertSlot_29 : decode b_Trees_insertSlot 29 = .ok (.istore 6, 2) := by decide +kernel
theorem d_Trees_insertSlot_31 : decode b_Trees_insertSlot 31 = .ok (.aload_n 0, 1) := by decide +kernel
theorem d_Trees_insertSlot_32 : decode b_Trees_insertSlot 32 = .ok (.getfield 28, 3) := by decide +kernel
theorem d_Trees_insertSlot_35 : decode b_Trees_insertSlot 35 = .ok (.iload 6, 2) := by decide +kernel
theorem d_Trees_insertSlot_37 : decode b_Trees_insertSlot 37 = .ok (.invokevirtual 126, 3) := by decide +kernel
theorem d_Trees_insertSlot_40 : decode b_Trees_insertSlot 40 = .ok (.ifCond .ne 16, 3) := by decide +kernel
theorem d_Trees_insertSlot_43 : decode b_Trees_insertSlot 43 = .ok (.aload_n 0, 1) := by decide +kernel
theorem d_Trees_insertSlot_44 : decode b_Trees_insertSlot 44 = .ok (.getfield 28, 3) := by decide +kernel
theorem d_Trees_insertSlot_47 : decode b_Trees_insertSlot 47 = .ok (.iload 6, 2) := by decide +kernel
theorem d_Trees_insertSlot_49 : decode b_Trees_insertSlot 49 = .ok (.iload 4, 2) := by decide +kernel
theorem d_Trees_insertSlot_51 : decode b_Trees_insertSlot 51 = .ok (.iload_n 3, 1) := by decide +kernel
theorem d_Trees_insertSlot_52 : decode b_Trees_insertSlot 52 = .ok (.invokevirtual 129, 3) := by decide +kernel
theorem d_Trees_insertSlot_55 : decode b_Trees_insertSlot 55 = .ok (.return_, 1) := by decide +kernel
theorem d_Trees_insertSlot_56 : decode b_Trees_insertSlot 56 = .ok (.aload_n 0, 1) := by decide +kernel
theorem d_Trees_insertSlot_57 : decode b_Trees_insertSlot 57 = .ok (.getfield 28, 3) := by decide +kernel
theorem d_Trees_insertSlot_60 : decode b_Trees_insertSlot 60 = .ok (.iload 6, 2) := by decide +kernel
theorem d_Trees_insertSlot_62 : decode b_Trees_insertSlot 62 = .ok (.invokevirtual 132, 3) := by decide +kernel
theorem d_Trees_insertSlot_65 : decode b_Trees_insertSlot 65 = .ok (.istore 7, 2) := by decide +kernel
theorem d_Trees_insertSlot_67 : decode b_Trees_insertSlot 67 = .ok (.aload_n 0, 1) := by decide +kernel
theorem d_Trees_insertSlot_68 : decode b_Trees_insertSlot 68 = .ok (.getfield 28, 3) := by decide +kernel
theorem d_Trees_insertSlot_71 : decode b_Trees_insertSlot 71 = .ok (.iload 6, 2) := by decide +kernel
theorem d_Trees_insertSlot_73 : decode b_Trees_insertSlot 73 = .ok (.invokevirtual 85, 3) := by decide +kernel
theorem d_Trees_insertSlot_76 : decode b_Trees_insertSlot 76 = .ok (.istore 8, 2) := by decide +kernel
theorem d_Trees_insertSlot_78 : decode b_Trees_insertSlot 78 = .ok (.iload 4, 2) := by decide +kernel
theorem d_Trees_insertSlot_80 : decode b_Trees_insertSlot 80 = .ok (.iload 8, 2) := by decide +kernel
theorem d_Trees_insertSlot_82 : decode b_Trees_insertSlot 82 = .ok (.if_icmp .gt 18, 3) := by decide +kernel
theorem d_Trees_insertSlot_85 : decode b_Trees_insertSlot 85 = .ok (.aload_n 0, 1) := by decide +kernel
theorem d_Trees_insertSlot_86 : decode b_Trees_insertSlot 86 = .ok (.getfield 28, 3) := by decide +kernel
theorem d_Trees_insertSlot_89 : decode b_Trees_insertSlot 89 = .ok (.iload 6, 2) := by decide +kernel
theorem d_Trees_insertSlot_91 : decode b_Trees_insertSlot 91 = .ok (.iload 4, 2) := by decide +kernel
theorem d_Trees_insertSlot_93 : decode b_Trees_insertSlot 93 = .ok (.iload_n 3, 1) := by decide +kernel
theorem d_Trees_insertSlot_94 : decode b_Trees_insertSlot 94 = .ok (.invokevirtual 129, 3) := by decide +kernel
theorem d_Trees_insertSlot_97 : decode b_Trees_insertSlot 97 = .ok (.goto 18, 3) := by decide +kernel
theorem d_Trees_insertSlot_100 : decode b_Trees_insertSlot 100 = .ok (.aload_n 0, 1) := by decide +kernel
theorem d_Trees_insertSlot_101 : decode b_Trees_insertSlot 101 = .ok (.getfield 28, 3) := by decide +kernel
theorem d_Trees_insertSlot_104 : decode b_Trees_insertSlot 104 = .ok (.iload 7, 2) := by decide +kernel
theorem d_Trees_insertSlot_106 : decode b_Trees_insertSlot 106 = .ok (.iload 4, 2) := by decide +kernel
theorem d_Trees_insertSlot_108 : decode b_Trees_insertSlot 108 = .ok (.iload 8, 2) := by decide +kernel
theorem d_Trees_insertSlot_110 : decode b_Trees_insertSlot 110 = .ok (.isub, 1) := by decide +kernel
theorem d_Trees_insertSlot_111 : decode b_Trees_insertSlot 111 = .ok (.iload_n 3, 1) := by decide +kernel
theorem d_Trees_insertSlot_112 : decode b_Trees_insertSlot 112 = .ok (.invokevirtual 129, 3) := by decide +kernel
theorem d_Trees_insertSlot_115 : decode b_Trees_insertSlot 115 = .ok (.iload 7, 2) := by decide +kernel
theorem d_Trees_insertSlot_117 : decode b_Trees_insertSlot 117 = .ok (.istore_n 3, 1) := by decide +kernel
theorem d_Trees_insertSlot_118 : decode b_Trees_insertSlot 118 = .ok (.aload_n 0, 1) := by decide +kernel
theorem d_Trees_insertSlot_119 : decode b_Trees_insertSlot 119 = .ok (.getfield 17, 3) := by decide +kernel
theorem d_Trees_insertSlot_122 : decode b_Trees_insertSlot 122 = .ok (.iload 5, 2) := by decide +kernel
theorem d_Trees_insertSlot_124 : decode b_Trees_insertSlot 124 = .ok (.iconst 1, 1) := by decide +kernel
theorem d_Trees_insertSlot_125 : decode b_Trees_insertSlot 125 = .ok (.iadd, 1) := by decide +kernel
theorem d_Trees_insertSlot_126 : decode b_Trees_insertSlot 126 = .ok (.iaload, 1) := by decide +kernel
theorem d_Trees_insertSlot_127 : decode b_Trees_insertSlot 127 = .ok (.iconst 1, 1) := by decide +kernel
theorem d_Trees_insertSlot_128 : decode b_Trees_insertSlot 128 = .ok (.iadd, 1) := by decide +kernel
theorem d_Trees_insertSlot_129 : decode b_Trees_insertSlot 129 = .ok (.istore 4, 2) := by decide +kernel
theorem d_Trees_insertSlot_131 : decode b_Trees_insertSlot 131 = .ok (.iinc 5 1, 3) := by decide +kernel
theorem d_Trees_insertSlot_134 : decode b_Trees_insertSlot 134 = .ok (.goto (-121), 3) := by decide +kernel
theorem d_Trees_insertSlot_137 : decode b_Trees_insertSlot 137 = .ok (.aload_n 0, 1) := by decide +kernel
theorem d_Trees_insertSlot_138 : decode b_Trees_insertSlot 138 = .ok (.iload_n 1, 1) := by decide +kernel
theorem d_Trees_insertSlot_139 : decode b_Trees_insertSlot 139 = .ok (.iload_n 3, 1) := by decide +kernel
theorem d_Trees_insertSlot_140 : decode b_Trees_insertSlot 140 = .ok (.invokevirtual 135, 3) := by decide +kernel
theorem d_Trees_insertSlot_143 : decode b_Trees_insertSlot 143 = .ok (.return_, 1) := by decide +kernel
theorem d_Trees_raiseRoot_0 : decode b_Trees_raiseRoot 0 = .ok (.aload_n 0, 1) := by decide +kernel
theorem d_Trees_raiseRoot_1 : decode b_Trees_raiseRoot 1 = .ok (.getfield 28, 3) := by decide +kernel
theorem d_Trees_raiseRoot_4 : decode b_Trees_raiseRoot 4 = .ok (.aload_n 0, 1) := by decide +kernel
theorem d_Trees_raiseRoot_5 : decode b_Trees_raiseRoot 5 = .ok (.getfield 20, 3) := by decide +kernel
theorem d_Trees_raiseRoot_8 : decode b_Trees_raiseRoot 8 = .ok (.iconst 1, 1) := by decide +kernel
theorem d_Trees_raiseRoot_9 : decode b_Trees_raiseRoot 9 = .ok (.iadd, 1) := by decide +kernel
theorem d_Trees_raiseRoot_10 : decode b_Trees_raiseRoot 10 = .ok (.invokevirtual 49, 3) := by decide +kernel
theorem d_Trees_raiseRoot_13 : decode b_Trees_raiseRoot 13 = .ok (.istore_n 3, 1) := by decide +kernel
theorem d_Trees_raiseRoot_14 : decode b_Trees_raiseRoot 14 = .ok (.aload_n 0, 1) := by decide +kernel
theorem d_Trees_raiseRoot_15 : decode b_Trees_raiseRoot 15 = .ok (.getfield 28, 3) := by decide +kernel
theorem d_Trees_raiseRoot_18 : decode b_Trees_raiseRoot 18 = .ok (.iload_n 3, 1) := by decide +kernel
theorem d_Trees_raiseRoot_19 : decode b_Trees_raiseRoot 19 = .ok (.iconst 0, 1) := by decide +kernel
theorem d_Trees_raiseRoot_20 : decode b_Trees_raiseRoot 20 = .ok (.aload_n 0, 1) := by decide +kernel
theorem d_Trees_raiseRoot_21 : decode b_Trees_raiseRoot 21 = .ok (.iload_n 1, 1) := by decide +kernel
theorem d_Trees_raiseRoot_22 : decode b_Trees_raiseRoot 22 = .ok (.invokevirtual 36, 3) := by decide +kernel
theorem d_Trees_raiseRoot_25 : decode b_Trees_raiseRoot 25 = .ok (.invokevirtual 129, 3) := by decide +kernel
theorem d_Trees_raiseRoot_28 : decode b_Trees_raiseRoot 28 = .ok (.aload_n 0, 1) := by decide +kernel
theorem d_Trees_raiseRoot_29 : decode b_Trees_raiseRoot 29 = .ok (.getfield 28, 3) := by decide +kernel
theorem d_Trees_raiseRoot_32 : decode b_Trees_raiseRoot 32 = .ok (.iload_n 3, 1) := by decide +kernel
theorem d_Trees_raiseRoot_33 : decode b_Trees_raiseRoot 33 = .ok (.iconst 1, 1) := by decide +kernel
theorem d_Trees_raiseRoot_34 : decode b_Trees_raiseRoot 34 = .ok (.iload_n 2, 1) := by decide +kernel
theorem d_Trees_raiseRoot_35 : decode b_Trees_raiseRoot 35 = .ok (.invokevirtual 129, 3) := by decide +kernel
theorem d_Trees_raiseRoot_38 : decode b_Trees_raiseRoot 38 = .ok (.aload_n 0, 1) := by decide +kernel
theorem d_Trees_raiseRoot_39 : decode b_Trees_raiseRoot 39 = .ok (.iload_n 1, 1) := by decide +kernel
theorem d_Trees_raiseRoot_40 : decode b_Trees_raiseRoot 40 = .ok (.iload_n 3, 1) := by decide +kernel
theorem d_Trees_raiseRoot_41 : decode b_Trees_raiseRoot 41 = .ok (.invokevirtual 52, 3) := by decide +kernel
theorem d_Trees_raiseRoot_44 : decode b_Trees_raiseRoot 44 = .ok (.return_, 1) := by decide +kernel
theorem d_Trees_mendPath_0 : decode b_Trees_mendPath 0 = .ok (.iconst 0, 1) := by decide +kernel
theorem d_Trees_mendPath_1 : decode b_Trees_mendPath 1 = .ok (.istore_n 1, 1) := by decide +kernel
theorem d_Trees_mendPath_2 : decode b_Trees_mendPath 2 = .ok (.iload_n 1, 1) := by decide +kernel
theorem d_Trees_mendPath_3 : decode b_Trees_mendPath 3 = .ok (.aload_n 0, 1) := by decide +kernel
theorem d_Trees_mendPath_4 : decode b_Trees_mendPath 4 = .ok (.getfield 20, 3) := by decide +kernel
theorem d_Trees_mendPath_7 : decode b_Trees_mendPath 7 = .ok (.if_icmp .ge 90, 3) := by decide +kernel
theorem d_Trees_mendPath_10 : decode b_Trees_mendPath 10 = .ok (.aload_n 0, 1) := by decide +kernel
theorem d_Trees_mendPath_11 : decode b_Trees_mendPath 11 = .ok (.getfield 28, 3) := by decide +kernel
theorem d_Trees_mendPath_14 : decode b_Trees_mendPath 14 = .ok (.aload_n 0, 1) := by decide +kernel
theorem d_Trees_mendPath_15 : decode b_Trees_mendPath 15 = .ok (.getfield 11, 3) := by decide +kernel
theorem d_Trees_mendPath_18 : decode b_Trees_mendPath 18 = .ok (.iload_n 1, 1) := by decide +kernel
theorem d_Trees_mendPath_19 : decode b_Trees_mendPath 19 = .ok (.iaload, 1) := by decide +kernel
theorem d_Trees_mendPath_20 : decode b_Trees_mendPath 20 = .ok (.invokevirtual 138, 3) := by decide +kernel
theorem d_Trees_mendPath_23 : decode b_Trees_mendPath 23 = .ok (.ifCond .eq 74, 3) := by decide +kernel
theorem d_Trees_mendPath_26 : decode b_Trees_mendPath 26 = .ok (.aload_n 0, 1) := by decide +kernel
theorem d_Trees_mendPath_27 : decode b_Trees_mendPath 27 = .ok (.getfield 11, 3) := by decide +kernel
theorem d_Trees_mendPath_30 : decode b_Trees_mendPath 30 = .ok (.iload_n 1, 1) := by decide +kernel
theorem d_Trees_mendPath_31 : decode b_Trees_mendPath 31 = .ok (.iconst 1, 1) := by decide +kernel
theorem d_Trees_mendPath_32 : decode b_Trees_mendPath 32 = .ok (.iadd, 1) := by decide +kernel
theorem d_Trees_mendPath_33 : decode b_Trees_mendPath 33 = .ok (.iaload, 1) := by decide +kernel
theorem d_Trees_mendPath_34 : decode b_Trees_mendPath 34 = .ok (.istore_n 2, 1) := by decide +kernel
theorem d_Trees_mendPath_35 : decode b_Trees_mendPath 35 = .ok (.aload_n 0, 1) := by decide +kernel
theorem d_Trees_mendPath_36 : decode b_Trees_mendPath 36 = .ok (.getfield 17, 3) := by decide +kernel
theorem d_Trees_mendPath_39 : decode b_Trees_mendPath 39 = .ok (.iload_n 1, 1) := by decide +kernel
theorem d_Trees_mendPath_40 : decode b_Trees_mendPath 40 = .ok (.iconst 1, 1) := by decide +kernel
theorem d_Trees_mendPath_41 : decode b_Trees_mendPath 41 = .ok (.iadd, 1) := by decide +kernel
theorem d_Trees_mendPath_42 : decode b_Trees_mendPath 42 = .ok (.iaload, 1) := by decide +kernel
theorem d_Trees_mendPath_43 : decode b_Trees_mendPath 43 = .ok (.iconst 1, 1) := by decide +kernel
theorem d_Trees_mendPath_44 : decode b_Trees_mendPath 44 = .ok (.isub, 1) := by decide +kernel
theorem d_Trees_mendPath_45 : decode b_Trees_mendPath 45 = .ok (.iconst 0, 1) := by decide +kernel
theorem d_Trees_mendPath_46 : decode b_Trees_mendPath 46 = .ok (.invokestatic 72, 3) := by decide +kernel
theorem d_Trees_mendPath_49 : decode b_Trees_mendPath 49 = .ok (.istore_n 3, 1) := by decide +kernel
theorem d_Trees_mendPath_50 : decode b_Trees_mendPath 50 = .ok (.aload_n 0, 1) := by decide +kernel
theorem d_Trees_mendPath_51 : decode b_Trees_mendPath 51 = .ok (.getfield 28, 3) := by decide +kernel
theorem d_Trees_mendPath_54 : decode b_Trees_mendPath 54 = .ok (.aload_n 0, 1) := by decide +kernel
theorem d_Trees_mendPath_55 : decode b_Trees_mendPath 55 = .ok (.getfield 28, 3) := by decide +kernel
theorem d_Trees_mendPath_58 : decode b_Trees_mendPath 58 = .ok (.iload_n 2, 1) := by decide +kernel
theorem d_Trees_mendPath_59 : decode b_Trees_mendPath 59 = .ok (.iload_n 3, 1) := by decide +kernel
theorem d_Trees_mendPath_60 : decode b_Trees_mendPath 60 = .ok (.invokevirtual 78, 3) := by decide +kernel
theorem d_Trees_mendPath_63 : decode b_Trees_mendPath 63 = .ok (.aload_n 0, 1) := by decide +kernel
theorem d_Trees_mendPath_64 : decode b_Trees_mendPath 64 = .ok (.getfield 28, 3) := by decide +kernel
theorem d_Trees_mendPath_67 : decode b_Trees_mendPath 67 = .ok (.iload_n 2, 1) := by decide +kernel
theorem d_Trees_mendPath_68 : decode b_Trees_mendPath 68 = .ok (.iload_n 3, 1) := by decide +kernel
theorem d_Trees_mendPath_69 : decode b_Trees_mendPath 69 = .ok (.iconst 1, 1) := by decide +kernel
theorem d_Trees_mendPath_70 : decode b_Trees_mendPath 70 = .ok (.iadd, 1) := by decide +kernel
theorem d_Trees_mendPath_71 : decode b_Trees_mendPath 71 = .ok (.invokevirtual 78, 3) := by decide +kernel
theorem d_Trees_mendPath_74 : decode b_Trees_mendPath 74 = .ok (.invokevirtual 141, 3) := by decide +kernel
theorem d_Trees_mendPath_77 : decode b_Trees_mendPath 77 = .ok (.ifCond .eq 14, 3) := by decide +kernel
theorem d_Trees_mendPath_80 : decode b_Trees_mendPath 80 = .ok (.aload_n 0, 1) := by decide +kernel
theorem d_Trees_mendPath_81 : decode b_Trees_mendPath 81 = .ok (.getfield 28, 3) := by decide +kernel
theorem d_Trees_mendPath_84 : decode b_Trees_mendPath 84 = .ok (.iload_n 2, 1) := by decide +kernel
theorem d_Trees_mendPath_85 : decode b_Trees_mendPath 85 = .ok (.iload_n 3, 1) := by decide +kernel
theorem d_Trees_mendPath_86 : decode b_Trees_mendPath 86 = .ok (.iconst 1, 1) := by decide +kernel
theorem d_Trees_mendPath_87 : decode b_Trees_mendPath 87 = .ok (.iadd, 1) := by decide +kernel
theorem d_Trees_mendPath_88 : decode b_Trees_mendPath 88 = .ok (.invokevirtual 114, 3) := by decide +kernel
theorem d_Trees_mendPath_91 : decode b_Trees_mendPath 91 = .ok (.iinc 1 1, 3) := by decide +kernel
theorem d_Trees_mendPath_94 : decode b_Trees_mendPath 94 = .ok (.goto (-92), 3) := by decide +kernel
theorem d_Trees_mendPath_97 : decode b_Trees_mendPath 97 = .ok (.return_, 1) := by decide +kernel
theorem d_Trees_lowerRoot_0 : decode b_Trees_lowerRoot 0 = .ok (.aload_n 0, 1) := by decide +kernel
theorem d_Trees_lowerRoot_1 : decode b_Trees_lowerRoot 1 = .ok (.iload_n 1, 1) := by decide +kernel
theorem d_Trees_lowerRoot_2 : decode b_Trees_lowerRoot 2 = .ok (.invokevirtual 36, 3) := by decide +kernel
theorem d_Trees_lowerRoot_5 : decode b_Trees_lowerRoot 5 = .ok (.istore_n 2, 1) := by decide +kernel
theorem d_Trees_lowerRoot_6 : decode b_Trees_lowerRoot 6 = .ok (.aload_n 0, 1) := by decide +kernel
theorem d_Trees_lowerRoot_7 : decode b_Trees_lowerRoot 7 = .ok (.getfield 28, 3) := by decide +kernel
theorem d_Trees_lowerRoot_10 : decode b_Trees_lowerRoot 10 = .ok (.iload_n 2, 1) := by decide +kernel
theorem d_Trees_lowerRoot_11 : decode b_Trees_lowerRoot 11 = .ok (.invokevirtual 62, 3) := by decide +kernel
theorem d_Trees_lowerRoot_14 : decode b_Trees_lowerRoot 14 = .ok (.ifCond .le 37, 3) := by decide +kernel
theorem d_Trees_lowerRoot_17 : decode b_Trees_lowerRoot 17 = .ok (.aload_n 0, 1) := by decide +kernel
theorem d_Trees_lowerRoot_18 : decode b_Trees_lowerRoot 18 = .ok (.getfield 28, 3) := by decide +kernel
theorem d_Trees_lowerRoot_21 : decode b_Trees_lowerRoot 21 = .ok (.iload_n 2, 1) := by decide +kernel
theorem d_Trees_lowerRoot_22 : decode b_Trees_lowerRoot 22 = .ok (.invokevirtual 85, 3) := by decide +kernel
theorem d_Trees_lowerRoot_25 : decode b_Trees_lowerRoot 25 = .ok (.iconst 1, 1) := by decide +kernel
theorem d_Trees_lowerRoot_26 : decode b_Trees_lowerRoot 26 = .ok (.if_icmp .ne 25, 3) := by decide +kernel
theorem d_Trees_lowerRoot_29 : decode b_Trees_lowerRoot 29 = .ok (.aload_n 0, 1) := by decide +kernel
theorem d_Trees_lowerRoot_30 : decode b_Trees_lowerRoot 30 = .ok (.iload_n 1, 1) := by decide +kernel
theorem d_Trees_lowerRoot_31 : decode b_Trees_lowerRoot 31 = .ok (.aload_n 0, 1) := by decide +kernel
theorem d_Trees_lowerRoot_32 : decode b_Trees_lowerRoot 32 = .ok (.getfield 28, 3) := by decide +kernel
theorem d_Trees_lowerRoot_35 : decode b_Trees_lowerRoot 35 = .ok (.iload_n 2, 1) := by decide +kernel
theorem d_Trees_lowerRoot_36 : decode b_Trees_lowerRoot 36 = .ok (.iconst 0, 1) := by decide +kernel
theorem d_Trees_lowerRoot_37 : decode b_Trees_lowerRoot 37 = .ok (.invokevirtual 78, 3) := by decide +kernel
theorem d_Trees_lowerRoot_40 : decode b_Trees_lowerRoot 40 = .ok (.invokevirtual 52, 3) := by decide +kernel
theorem d_Trees_lowerRoot_43 : decode b_Trees_lowerRoot 43 = .ok (.aload_n 0, 1) := by decide +kernel
theorem d_Trees_lowerRoot_44 : decode b_Trees_lowerRoot 44 = .ok (.getfield 24, 3) := by decide +kernel
theorem d_Trees_lowerRoot_47 : decode b_Trees_lowerRoot 47 = .ok (.iload_n 2, 1) := by decide +kernel
theorem d_Trees_lowerRoot_48 : decode b_Trees_lowerRoot 48 = .ok (.invokevirtual 145, 3) := by decide +kernel
theorem d_Trees_lowerRoot_51 : decode b_Trees_lowerRoot 51 = .ok (.return_, 1) := by decide +kernel
theorem d_Trees_free_0 : decode b_Trees_free 0 = .ok (.aload_n 0, 1) := by decide +kernel
theorem d_Trees_free_1 : decode b_Trees_free 1 = .ok (.getfield 28, 3) := by decide +kernel
theorem d_Trees_free_4 : decode b_Trees_free 4 = .ok (.iload_n 1, 1) := by decide +kernel
theorem d_Trees_free_5 : decode b_Trees_free 5 = .ok (.invokevirtual 85, 3) := by decide +kernel
theorem d_Trees_free_8 : decode b_Trees_free 8 = .ok (.istore_n 3, 1) := by decide +kernel
theorem d_Trees_free_9 : decode b_Trees_free 9 = .ok (.iconst 0, 1) := by decide +kernel
theorem d_Trees_free_10 : decode b_Trees_free 10 = .ok (.istore 4, 2) := by decide +kernel
theorem d_Trees_free_12 : decode b_Trees_free 12 = .ok (.iload 4, 2) := by decide +kernel
theorem d_Trees_free_14 : decode b_Trees_free 14 = .ok (.iload_n 3, 1) := by decide +kernel
theorem d_Trees_free_15 : decode b_Trees_free 15 = .ok (.if_icmp .ge 65, 3) := by decide +kernel
theorem d_Trees_free_18 : decode b_Trees_free 18 = .ok (.aload_n 0, 1) := by decide +kernel
theorem d_Trees_free_19 : decode b_Trees_free 19 = .ok (.getfield 28, 3) := by decide +kernel
theorem d_Trees_free_22 : decode b_Trees_free 22 = .ok (.iload_n 1, 1) := by decide +kernel
theorem d_Trees_free_23 : decode b_Trees_free 23 = .ok (.iload 4, 2) := by decide +kernel
theorem d_Trees_free_25 : decode b_Trees_free 25 = .ok (.invokevirtual 78, 3) := by decide +kernel
theorem d_Trees_free_28 : decode b_Trees_free 28 = .ok (.istore 5, 2) := by decide +kernel
theorem d_Trees_free_30 : decode b_Trees_free 30 = .ok (.iload_n 2, 1) := by decide +kernel
theorem d_Trees_free_31 : decode b_Trees_free 31 = .ok (.ifCond .le 15, 3) := by decide +kernel
theorem d_Trees_free_34 : decode b_Trees_free 34 = .ok (.aload_n 0, 1) := by decide +kernel
theorem d_Trees_free_35 : decode b_Trees_free 35 = .ok (.iload 5, 2) := by decide +kernel
theorem d_Trees_free_37 : decode b_Trees_free 37 = .ok (.iload_n 2, 1) := by decide +kernel
theorem d_Trees_free_38 : decode b_Trees_free 38 = .ok (.iconst 1, 1) := by decide +kernel
theorem d_Trees_free_39 : decode b_Trees_free 39 = .ok (.isub, 1) := by decide +kernel
theorem d_Trees_free_40 : decode b_Trees_free 40 = .ok (.invokevirtual 65, 3) := by decide +kernel
theorem d_Trees_free_43 : decode b_Trees_free 43 = .ok (.goto 31, 3) := by decide +kernel
theorem d_Trees_free_46 : decode b_Trees_free 46 = .ok (.aload_n 0, 1) := by decide +kernel
theorem d_Trees_free_47 : decode b_Trees_free 47 = .ok (.getfield 24, 3) := by decide +kernel
theorem d_Trees_free_50 : decode b_Trees_free 50 = .ok (.bipush 8, 2) := by decide +kernel
theorem d_Trees_free_52 : decode b_Trees_free 52 = .ok (.aload_n 0, 1) := by decide +kernel
theorem d_Trees_free_53 : decode b_Trees_free 53 = .ok (.getfield 32, 3) := by decide +kernel
theorem d_Trees_free_56 : decode b_Trees_free 56 = .ok (.iload 5, 2) := by decide +kernel
theorem d_Trees_free_58 : decode b_Trees_free 58 = .ok (.invokevirtual 97, 3) := by decide +kernel
theorem d_Trees_free_61 : decode b_Trees_free 61 = .ok (.ineg, 1) := by decide +kernel
theorem d_Trees_free_62 : decode b_Trees_free 62 = .ok (.invokevirtual 56, 3) := by decide +kernel
theorem d_Trees_free_65 : decode b_Trees_free 65 = .ok (.aload_n 0, 1) := by decide +kernel
theorem d_Trees_free_66 : decode b_Trees_free 66 = .ok (.getfield 32, 3) := by decide +kernel
theorem d_Trees_free_69 : decode b_Trees_free 69 = .ok (.iload 5, 2) := by decide +kernel
theorem d_Trees_free_71 : decode b_Trees_free 71 = .ok (.invokevirtual 100, 3) := by decide +kernel
theorem d_Trees_free_74 : decode b_Trees_free 74 = .ok (.iinc 4 1, 3) := by decide +kernel
theorem d_Trees_free_77 : decode b_Trees_free 77 = .ok (.goto (-65), 3) := by decide +kernel
theorem d_Trees_free_80 : decode b_Trees_free 80 = .ok (.aload_n 0, 1) := by decide +kernel
theorem d_Trees_free_81 : decode b_Trees_free 81 = .ok (.getfield 24, 3) := by decide +kernel
theorem d_Trees_free_84 : decode b_Trees_free 84 = .ok (.iload_n 1, 1) := by decide +kernel
theorem d_Trees_free_85 : decode b_Trees_free 85 = .ok (.invokevirtual 145, 3) := by decide +kernel
theorem d_Trees_free_88 : decode b_Trees_free 88 = .ok (.return_, 1) := by decide +kernel
