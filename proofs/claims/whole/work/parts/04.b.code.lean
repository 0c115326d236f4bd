/-! decode rows -/
theorem d_Chains_init_0 : decode b_Chains_init 0 = .ok (.aload_n 0, 1) := by decide +kernel
theorem d_Chains_init_1 : decode b_Chains_init 1 = .ok (.invokespecial 3, 3) := by decide +kernel
theorem d_Chains_init_4 : decode b_Chains_init 4 = .ok (.aload_n 0, 1) := by decide +kernel
theorem d_Chains_init_5 : decode b_Chains_init 5 = .ok (.iconst 0, 1) := by decide +kernel
theorem d_Chains_init_6 : decode b_Chains_init 6 = .ok (.putfield 9, 3) := by decide +kernel
theorem d_Chains_init_9 : decode b_Chains_init 9 = .ok (.aload_n 0, 1) := by decide +kernel
theorem d_Chains_init_10 : decode b_Chains_init 10 = .ok (.iconst 0, 1) := by decide +kernel
theorem d_Chains_init_11 : decode b_Chains_init 11 = .ok (.putfield 15, 3) := by decide +kernel
theorem d_Chains_init_14 : decode b_Chains_init 14 = .ok (.aload_n 0, 1) := by decide +kernel
theorem d_Chains_init_15 : decode b_Chains_init 15 = .ok (.aload_n 1, 1) := by decide +kernel
theorem d_Chains_init_16 : decode b_Chains_init 16 = .ok (.putfield 18, 3) := by decide +kernel
theorem d_Chains_init_19 : decode b_Chains_init 19 = .ok (.return_, 1) := by decide +kernel
theorem d_Chains_keyLength_0 : decode b_Chains_keyLength 0 = .ok (.aload_n 0, 1) := by decide +kernel
theorem d_Chains_keyLength_1 : decode b_Chains_keyLength 1 = .ok (.getfield 18, 3) := by decide +kernel
theorem d_Chains_keyLength_4 : decode b_Chains_keyLength 4 = .ok (.iload_n 1, 1) := by decide +kernel
theorem d_Chains_keyLength_5 : decode b_Chains_keyLength 5 = .ok (.bipush 32, 2) := by decide +kernel
theorem d_Chains_keyLength_7 : decode b_Chains_keyLength 7 = .ok (.imul, 1) := by decide +kernel
theorem d_Chains_keyLength_8 : decode b_Chains_keyLength 8 = .ok (.iconst 2, 1) := by decide +kernel
theorem d_Chains_keyLength_9 : decode b_Chains_keyLength 9 = .ok (.iadd, 1) := by decide +kernel
theorem d_Chains_keyLength_10 : decode b_Chains_keyLength 10 = .ok (.invokevirtual 22, 3) := by decide +kernel
theorem d_Chains_keyLength_13 : decode b_Chains_keyLength 13 = .ok (.ireturn, 1) := by decide +kernel
theorem d_Chains_valueLength_0 : decode b_Chains_valueLength 0 = .ok (.aload_n 0, 1) := by decide +kernel
theorem d_Chains_valueLength_1 : decode b_Chains_valueLength 1 = .ok (.getfield 18, 3) := by decide +kernel
theorem d_Chains_valueLength_4 : decode b_Chains_valueLength 4 = .ok (.iload_n 1, 1) := by decide +kernel
theorem d_Chains_valueLength_5 : decode b_Chains_valueLength 5 = .ok (.bipush 32, 2) := by decide +kernel
theorem d_Chains_valueLength_7 : decode b_Chains_valueLength 7 = .ok (.imul, 1) := by decide +kernel
theorem d_Chains_valueLength_8 : decode b_Chains_valueLength 8 = .ok (.iconst 4, 1) := by decide +kernel
theorem d_Chains_valueLength_9 : decode b_Chains_valueLength 9 = .ok (.iadd, 1) := by decide +kernel
theorem d_Chains_valueLength_10 : decode b_Chains_valueLength 10 = .ok (.invokevirtual 22, 3) := by decide +kernel
theorem d_Chains_valueLength_13 : decode b_Chains_valueLength 13 = .ok (.ireturn, 1) := by decide +kernel
theorem d_Chains_size_0 : decode b_Chains_size 0 = .ok (.iload_n 1, 1) := by decide +kernel
theorem d_Chains_size_1 : decode b_Chains_size 1 = .ok (.ifCond .ne 7, 3) := by decide +kernel
theorem d_Chains_size_4 : decode b_Chains_size 4 = .ok (.iconst 0, 1) := by decide +kernel
theorem d_Chains_size_5 : decode b_Chains_size 5 = .ok (.goto 17, 3) := by decide +kernel
theorem d_Chains_size_8 : decode b_Chains_size 8 = .ok (.bipush 16, 2) := by decide +kernel
theorem d_Chains_size_10 : decode b_Chains_size 10 = .ok (.aload_n 0, 1) := by decide +kernel
theorem d_Chains_size_11 : decode b_Chains_size 11 = .ok (.iload_n 1, 1) := by decide +kernel
theorem d_Chains_size_12 : decode b_Chains_size 12 = .ok (.invokevirtual 28, 3) := by decide +kernel
theorem d_Chains_size_15 : decode b_Chains_size 15 = .ok (.iadd, 1) := by decide +kernel
theorem d_Chains_size_16 : decode b_Chains_size 16 = .ok (.aload_n 0, 1) := by decide +kernel
theorem d_Chains_size_17 : decode b_Chains_size 17 = .ok (.iload_n 1, 1) := by decide +kernel
theorem d_Chains_size_18 : decode b_Chains_size 18 = .ok (.invokevirtual 31, 3) := by decide +kernel
theorem d_Chains_size_21 : decode b_Chains_size 21 = .ok (.iadd, 1) := by decide +kernel
theorem d_Chains_size_22 : decode b_Chains_size 22 = .ok (.ireturn, 1) := by decide +kernel
theorem d_Chains_pagesFor_0 : decode b_Chains_pagesFor 0 = .ok (.aload_n 0, 1) := by decide +kernel
theorem d_Chains_pagesFor_1 : decode b_Chains_pagesFor 1 = .ok (.iload_n 1, 1) := by decide +kernel
theorem d_Chains_pagesFor_2 : decode b_Chains_pagesFor 2 = .ok (.invokevirtual 28, 3) := by decide +kernel
theorem d_Chains_pagesFor_5 : decode b_Chains_pagesFor 5 = .ok (.aload_n 0, 1) := by decide +kernel
theorem d_Chains_pagesFor_6 : decode b_Chains_pagesFor 6 = .ok (.iload_n 1, 1) := by decide +kernel
theorem d_Chains_pagesFor_7 : decode b_Chains_pagesFor 7 = .ok (.invokevirtual 31, 3) := by decide +kernel
theorem d_Chains_pagesFor_10 : decode b_Chains_pagesFor 10 = .ok (.iadd, 1) := by decide +kernel
theorem d_Chains_pagesFor_11 : decode b_Chains_pagesFor 11 = .ok (.bipush 26, 2) := by decide +kernel
theorem d_Chains_pagesFor_13 : decode b_Chains_pagesFor 13 = .ok (.isub, 1) := by decide +kernel
theorem d_Chains_pagesFor_14 : decode b_Chains_pagesFor 14 = .ok (.istore_n 2, 1) := by decide +kernel
theorem d_Chains_pagesFor_15 : decode b_Chains_pagesFor 15 = .ok (.iload_n 2, 1) := by decide +kernel
theorem d_Chains_pagesFor_16 : decode b_Chains_pagesFor 16 = .ok (.ifCond .gt 7, 3) := by decide +kernel
theorem d_Chains_pagesFor_19 : decode b_Chains_pagesFor 19 = .ok (.iconst 1, 1) := by decide +kernel
theorem d_Chains_pagesFor_20 : decode b_Chains_pagesFor 20 = .ok (.goto 16, 3) := by decide +kernel
theorem d_Chains_pagesFor_23 : decode b_Chains_pagesFor 23 = .ok (.iconst 1, 1) := by decide +kernel
theorem d_Chains_pagesFor_24 : decode b_Chains_pagesFor 24 = .ok (.iload_n 2, 1) := by decide +kernel
theorem d_Chains_pagesFor_25 : decode b_Chains_pagesFor 25 = .ok (.bipush 32, 2) := by decide +kernel
theorem d_Chains_pagesFor_27 : decode b_Chains_pagesFor 27 = .ok (.iadd, 1) := by decide +kernel
theorem d_Chains_pagesFor_28 : decode b_Chains_pagesFor 28 = .ok (.iconst 2, 1) := by decide +kernel
theorem d_Chains_pagesFor_29 : decode b_Chains_pagesFor 29 = .ok (.isub, 1) := by decide +kernel
theorem d_Chains_pagesFor_30 : decode b_Chains_pagesFor 30 = .ok (.iconst 1, 1) := by decide +kernel
theorem d_Chains_pagesFor_31 : decode b_Chains_pagesFor 31 = .ok (.isub, 1) := by decide +kernel
theorem d_Chains_pagesFor_32 : decode b_Chains_pagesFor 32 = .ok (.bipush 30, 2) := by decide +kernel
theorem d_Chains_pagesFor_34 : decode b_Chains_pagesFor 34 = .ok (.idiv, 1) := by decide +kernel
theorem d_Chains_pagesFor_35 : decode b_Chains_pagesFor 35 = .ok (.iadd, 1) := by decide +kernel
theorem d_Chains_pagesFor_36 : decode b_Chains_pagesFor 36 = .ok (.ireturn, 1) := by decide +kernel
theorem d_Chains_store_0 : decode b_Chains_store 0 = .ok (.aload_n 0, 1) := by decide +kernel
theorem d_Chains_store_1 : decode b_Chains_store 1 = .ok (.getfield 18, 3) := by decide +kernel
theorem d_Chains_store_4 : decode b_Chains_store 4 = .ok (.invokevirtual 34, 3) := by decide +kernel
theorem d_Chains_store_7 : decode b_Chains_store 7 = .ok (.istore_n 3, 1) := by decide +kernel
theorem d_Chains_store_8 : decode b_Chains_store 8 = .ok (.aload_n 0, 1) := by decide +kernel
theorem d_Chains_store_9 : decode b_Chains_store 9 = .ok (.getfield 18, 3) := by decide +kernel
theorem d_Chains_store_12 : decode b_Chains_store 12 = .ok (.iload_n 3, 1) := by decide +kernel
theorem d_Chains_store_13 : decode b_Chains_store 13 = .ok (.bipush 32, 2) := by decide +kernel
theorem d_Chains_store_15 : decode b_Chains_store 15 = .ok (.imul, 1) := by decide +kernel
theorem d_Chains_store_16 : decode b_Chains_store 16 = .ok (.iconst 2, 1) := by decide +kernel
theorem d_Chains_store_17 : decode b_Chains_store 17 = .ok (.iadd, 1) := by decide +kernel
theorem d_Chains_store_18 : decode b_Chains_store 18 = .ok (.aload_n 1, 1) := by decide +kernel
theorem d_Chains_store_19 : decode b_Chains_store 19 = .ok (.invokevirtual 38, 3) := by decide +kernel
theorem d_Chains_store_22 : decode b_Chains_store 22 = .ok (.invokevirtual 43, 3) := by decide +kernel
theorem d_Chains_store_25 : decode b_Chains_store 25 = .ok (.aload_n 0, 1) := by decide +kernel
theorem d_Chains_store_26 : decode b_Chains_store 26 = .ok (.getfield 18, 3) := by decide +kernel
theorem d_Chains_store_29 : decode b_Chains_store 29 = .ok (.iload_n 3, 1) := by decide +kernel
theorem d_Chains_store_30 : decode b_Chains_store 30 = .ok (.bipush 32, 2) := by decide +kernel
theorem d_Chains_store_32 : decode b_Chains_store 32 = .ok (.imul, 1) := by decide +kernel
theorem d_Chains_store_33 : decode b_Chains_store 33 = .ok (.iconst 4, 1) := by decide +kernel
theorem d_Chains_store_34 : decode b_Chains_store 34 = .ok (.iadd, 1) := by decide +kernel
theorem d_Chains_store_35 : decode b_Chains_store 35 = .ok (.aload_n 2, 1) := by decide +kernel
theorem d_Chains_store_36 : decode b_Chains_store 36 = .ok (.invokevirtual 38, 3) := by decide +kernel
theorem d_Chains_store_39 : decode b_Chains_store 39 = .ok (.invokevirtual 43, 3) := by decide +kernel
theorem d_Chains_store_42 : decode b_Chains_store 42 = .ok (.aload_n 0, 1) := by decide +kernel
theorem d_Chains_store_43 : decode b_Chains_store 43 = .ok (.iload_n 3, 1) := by decide +kernel
theorem d_Chains_store_44 : decode b_Chains_store 44 = .ok (.putfield 9, 3) := by decide +kernel
theorem d_Chains_store_47 : decode b_Chains_store 47 = .ok (.aload_n 0, 1) := by decide +kernel
theorem d_Chains_store_48 : decode b_Chains_store 48 = .ok (.bipush 6, 2) := by decide +kernel
theorem d_Chains_store_50 : decode b_Chains_store 50 = .ok (.putfield 15, 3) := by decide +kernel
theorem d_Chains_store_53 : decode b_Chains_store 53 = .ok (.aload_n 0, 1) := by decide +kernel
theorem d_Chains_store_54 : decode b_Chains_store 54 = .ok (.aload_n 1, 1) := by decide +kernel
theorem d_Chains_store_55 : decode b_Chains_store 55 = .ok (.invokevirtual 47, 3) := by decide +kernel
theorem d_Chains_store_58 : decode b_Chains_store 58 = .ok (.aload_n 0, 1) := by decide +kernel
theorem d_Chains_store_59 : decode b_Chains_store 59 = .ok (.aload_n 2, 1) := by decide +kernel
theorem d_Chains_store_60 : decode b_Chains_store 60 = .ok (.invokevirtual 47, 3) := by decide +kernel
theorem d_Chains_store_63 : decode b_Chains_store 63 = .ok (.iload_n 3, 1) := by decide +kernel
theorem d_Chains_store_64 : decode b_Chains_store 64 = .ok (.ireturn, 1) := by decide +kernel
theorem d_Chains_free_0 : decode b_Chains_free 0 = .ok (.iload_n 1, 1) := by decide +kernel
theorem d_Chains_free_1 : decode b_Chains_free 1 = .ok (.istore_n 2, 1) := by decide +kernel
theorem d_Chains_free_2 : decode b_Chains_free 2 = .ok (.iconst 0, 1) := by decide +kernel
theorem d_Chains_free_3 : decode b_Chains_free 3 = .ok (.istore_n 3, 1) := by decide +kernel
theorem d_Chains_free_4 : decode b_Chains_free 4 = .ok (.iload_n 3, 1) := by decide +kernel
theorem d_Chains_free_5 : decode b_Chains_free 5 = .ok (.sipush 2720, 3) := by decide +kernel
theorem d_Chains_free_8 : decode b_Chains_free 8 = .ok (.if_icmp .ge 37, 3) := by decide +kernel
theorem d_Chains_free_11 : decode b_Chains_free 11 = .ok (.iload_n 2, 1) := by decide +kernel
theorem d_Chains_free_12 : decode b_Chains_free 12 = .ok (.ifCond .eq 33, 3) := by decide +kernel
theorem d_Chains_free_15 : decode b_Chains_free 15 = .ok (.aload_n 0, 1) := by decide +kernel
theorem d_Chains_free_16 : decode b_Chains_free 16 = .ok (.getfield 18, 3) := by decide +kernel
theorem d_Chains_free_19 : decode b_Chains_free 19 = .ok (.iload_n 2, 1) := by decide +kernel
theorem d_Chains_free_20 : decode b_Chains_free 20 = .ok (.bipush 32, 2) := by decide +kernel
theorem d_Chains_free_22 : decode b_Chains_free 22 = .ok (.imul, 1) := by decide +kernel
theorem d_Chains_free_23 : decode b_Chains_free 23 = .ok (.invokevirtual 22, 3) := by decide +kernel
theorem d_Chains_free_26 : decode b_Chains_free 26 = .ok (.istore 4, 2) := by decide +kernel
theorem d_Chains_free_28 : decode b_Chains_free 28 = .ok (.aload_n 0, 1) := by decide +kernel
theorem d_Chains_free_29 : decode b_Chains_free 29 = .ok (.getfield 18, 3) := by decide +kernel
theorem d_Chains_free_32 : decode b_Chains_free 32 = .ok (.iload_n 2, 1) := by decide +kernel
theorem d_Chains_free_33 : decode b_Chains_free 33 = .ok (.invokevirtual 51, 3) := by decide +kernel
theorem d_Chains_free_36 : decode b_Chains_free 36 = .ok (.iload 4, 2) := by decide +kernel
theorem d_Chains_free_38 : decode b_Chains_free 38 = .ok (.istore_n 2, 1) := by decide +kernel
theorem d_Chains_free_39 : decode b_Chains_free 39 = .ok (.iinc 3 1, 3) := by decide +kernel
theorem d_Chains_free_42 : decode b_Chains_free 42 = .ok (.goto (-38), 3) := by decide +kernel
theorem d_Chains_free_45 : decode b_Chains_free 45 = .ok (.return_, 1) := by decide +kernel
theorem d_Chains_copyTo_0 : decode b_Chains_copyTo 0 = .ok (.aload_n 0, 1) := by decide +kernel
theorem d_Chains_copyTo_1 : decode b_Chains_copyTo 1 = .ok (.iload_n 1, 1) := by decide +kernel
theorem d_Chains_copyTo_2 : decode b_Chains_copyTo 2 = .ok (.aload_n 2, 1) := by decide +kernel
theorem d_Chains_copyTo_3 : decode b_Chains_copyTo 3 = .ok (.invokevirtual 55, 3) := by decide +kernel
theorem d_Chains_copyTo_6 : decode b_Chains_copyTo 6 = .ok (.aload_n 0, 1) := by decide +kernel
theorem d_Chains_copyTo_7 : decode b_Chains_copyTo 7 = .ok (.aload_n 3, 1) := by decide +kernel
theorem d_Chains_copyTo_8 : decode b_Chains_copyTo 8 = .ok (.aload_n 0, 1) := by decide +kernel
theorem d_Chains_copyTo_9 : decode b_Chains_copyTo 9 = .ok (.iload_n 1, 1) := by decide +kernel
theorem d_Chains_copyTo_10 : decode b_Chains_copyTo 10 = .ok (.invokevirtual 31, 3) := by decide +kernel
theorem d_Chains_copyTo_13 : decode b_Chains_copyTo 13 = .ok (.invokevirtual 59, 3) := by decide +kernel
theorem d_Chains_copyTo_16 : decode b_Chains_copyTo 16 = .ok (.return_, 1) := by decide +kernel
theorem d_Chains_copyKeyTo_0 : decode b_Chains_copyKeyTo 0 = .ok (.aload_n 0, 1) := by decide +kernel
theorem d_Chains_copyKeyTo_1 : decode b_Chains_copyKeyTo 1 = .ok (.iload_n 1, 1) := by decide +kernel
theorem d_Chains_copyKeyTo_2 : decode b_Chains_copyKeyTo 2 = .ok (.putfield 9, 3) := by decide +kernel
theorem d_Chains_copyKeyTo_5 : decode b_Chains_copyKeyTo 5 = .ok (.aload_n 0, 1) := by decide +kernel
theorem d_Chains_copyKeyTo_6 : decode b_Chains_copyKeyTo 6 = .ok (.bipush 6, 2) := by decide +kernel
theorem d_Chains_copyKeyTo_8 : decode b_Chains_copyKeyTo 8 = .ok (.putfield 15, 3) := by decide +kernel
theorem d_Chains_copyKeyTo_11 : decode b_Chains_copyKeyTo 11 = .ok (.aload_n 0, 1) := by decide +kernel
theorem d_Chains_copyKeyTo_12 : decode b_Chains_copyKeyTo 12 = .ok (.aload_n 2, 1) := by decide +kernel
theorem d_Chains_copyKeyTo_13 : decode b_Chains_copyKeyTo 13 = .ok (.aload_n 0, 1) := by decide +kernel
theorem d_Chains_copyKeyTo_14 : decode b_Chains_copyKeyTo 14 = .ok (.iload_n 1, 1) := by decide +kernel
theorem d_Chains_copyKeyTo_15 : decode b_Chains_copyKeyTo 15 = .ok (.invokevirtual 28, 3) := by decide +kernel
theorem d_Chains_copyKeyTo_18 : decode b_Chains_copyKeyTo 18 = .ok (.invokevirtual 59, 3) := by decide +kernel
theorem d_Chains_copyKeyTo_21 : decode b_Chains_copyKeyTo 21 = .ok (.return_, 1) := by decide +kernel
theorem d_Chains_compare_0 : decode b_Chains_compare 0 = .ok (.aload_n 0, 1) := by decide +kernel
theorem d_Chains_compare_1 : decode b_Chains_compare 1 = .ok (.getfield 18, 3) := by decide +kernel
theorem d_Chains_compare_4 : decode b_Chains_compare 4 = .ok (.iload_n 2, 1) := by decide +kernel
theorem d_Chains_compare_5 : decode b_Chains_compare 5 = .ok (.bipush 32, 2) := by decide +kernel
theorem d_Chains_compare_7 : decode b_Chains_compare 7 = .ok (.imul, 1) := by decide +kernel
theorem d_Chains_compare_8 : decode b_Chains_compare 8 = .ok (.iconst 2, 1) := by decide +kernel
theorem d_Chains_compare_9 : decode b_Chains_compare 9 = .ok (.iadd, 1) := by decide +kernel
theorem d_Chains_compare_10 : decode b_Chains_compare 10 = .ok (.invokevirtual 22, 3) := by decide +kernel
theorem d_Chains_compare_13 : decode b_Chains_compare 13 = .ok (.istore_n 3, 1) := by decide +kernel
theorem d_Chains_compare_14 : decode b_Chains_compare 14 = .ok (.aload_n 1, 1) := by decide +kernel
theorem d_Chains_compare_15 : decode b_Chains_compare 15 = .ok (.invokevirtual 38, 3) := by decide +kernel
theorem d_Chains_compare_18 : decode b_Chains_compare 18 = .ok (.iload_n 3, 1) := by decide +kernel
theorem d_Chains_compare_19 : decode b_Chains_compare 19 = .ok (.invokestatic 63, 3) := by decide +kernel
theorem d_Chains_compare_22 : decode b_Chains_compare 22 = .ok (.istore 4, 2) := by decide +kernel
theorem d_Chains_compare_24 : decode b_Chains_compare 24 = .ok (.iload_n 2, 1) := by decide +kernel
theorem d_Chains_compare_25 : decode b_Chains_compare 25 = .ok (.istore 5, 2) := by decide +kernel
theorem d_Chains_compare_27 : decode b_Chains_compare 27 = .ok (.bipush 6, 2) := by decide +kernel
theorem d_Chains_compare_29 : decode b_Chains_compare 29 = .ok (.istore 6, 2) := by decide +kernel
theorem d_Chains_compare_31 : decode b_Chains_compare 31 = .ok (.iconst 0, 1) := by decide +kernel
theorem d_Chains_compare_32 : decode b_Chains_compare 32 = .ok (.istore 7, 2) := by decide +kernel
theorem d_Chains_compare_34 : decode b_Chains_compare 34 = .ok (.iconst 0, 1) := by decide +kernel
theorem d_Chains_compare_35 : decode b_Chains_compare 35 = .ok (.istore 8, 2) := by decide +kernel
theorem d_Chains_compare_37 : decode b_Chains_compare 37 = .ok (.iload 8, 2) := by decide +kernel
theorem d_Chains_compare_39 : decode b_Chains_compare 39 = .ok (.sipush 2720, 3) := by decide +kernel
theorem d_Chains_compare_42 : decode b_Chains_compare 42 = .ok (.if_icmp .ge 88, 3) := by decide +kernel
theorem d_Chains_compare_45 : decode b_Chains_compare 45 = .ok (.iload 7, 2) := by decide +kernel
theorem d_Chains_compare_47 : decode b_Chains_compare 47 = .ok (.iload 4, 2) := by decide +kernel
theorem d_Chains_compare_49 : decode b_Chains_compare 49 = .ok (.if_icmp .ge 81, 3) := by decide +kernel
theorem d_Chains_compare_52 : decode b_Chains_compare 52 = .ok (.bipush 32, 2) := by decide +kernel
theorem d_Chains_compare_54 : decode b_Chains_compare 54 = .ok (.iload 6, 2) := by decide +kernel
theorem d_Chains_compare_56 : decode b_Chains_compare 56 = .ok (.isub, 1) := by decide +kernel
theorem d_Chains_compare_57 : decode b_Chains_compare 57 = .ok (.iload 4, 2) := by decide +kernel
theorem d_Chains_compare_59 : decode b_Chains_compare 59 = .ok (.iload 7, 2) := by decide +kernel
theorem d_Chains_compare_61 : decode b_Chains_compare 61 = .ok (.isub, 1) := by decide +kernel
theorem d_Chains_compare_62 : decode b_Chains_compare 62 = .ok (.invokestatic 63, 3) := by decide +kernel
theorem d_Chains_compare_65 : decode b_Chains_compare 65 = .ok (.istore 9, 2) := by decide +kernel
theorem d_Chains_compare_67 : decode b_Chains_compare 67 = .ok (.aload_n 1, 1) := by decide +kernel
theorem d_Chains_compare_68 : decode b_Chains_compare 68 = .ok (.iload 7, 2) := by decide +kernel
theorem d_Chains_compare_70 : decode b_Chains_compare 70 = .ok (.iload 9, 2) := by decide +kernel
theorem d_Chains_compare_72 : decode b_Chains_compare 72 = .ok (.aload_n 0, 1) := by decide +kernel
theorem d_Chains_compare_73 : decode b_Chains_compare 73 = .ok (.getfield 18, 3) := by decide +kernel
theorem d_Chains_compare_76 : decode b_Chains_compare 76 = .ok (.invokevirtual 69, 3) := by decide +kernel
theorem d_Chains_compare_79 : decode b_Chains_compare 79 = .ok (.iload 5, 2) := by decide +kernel
theorem d_Chains_compare_81 : decode b_Chains_compare 81 = .ok (.bipush 32, 2) := by decide +kernel
theorem d_Chains_compare_83 : decode b_Chains_compare 83 = .ok (.imul, 1) := by decide +kernel
theorem d_Chains_compare_84 : decode b_Chains_compare 84 = .ok (.iload 6, 2) := by decide +kernel
theorem d_Chains_compare_86 : decode b_Chains_compare 86 = .ok (.iadd, 1) := by decide +kernel
theorem d_Chains_compare_87 : decode b_Chains_compare 87 = .ok (.invokevirtual 73, 3) := by decide +kernel
theorem d_Chains_compare_90 : decode b_Chains_compare 90 = .ok (.istore 10, 2) := by decide +kernel
theorem d_Chains_compare_92 : decode b_Chains_compare 92 = .ok (.iload 10, 2) := by decide +kernel
theorem d_Chains_compare_94 : decode b_Chains_compare 94 = .ok (.ifCond .eq 6, 3) := by decide +kernel
theorem d_Chains_compare_97 : decode b_Chains_compare 97 = .ok (.iload 10, 2) := by decide +kernel
theorem d_Chains_compare_99 : decode b_Chains_compare 99 = .ok (.ireturn, 1) := by decide +kernel
theorem d_Chains_compare_100 : decode b_Chains_compare 100 = .ok (.iload 7, 2) := by decide +kernel
theorem d_Chains_compare_102 : decode b_Chains_compare 102 = .ok (.iload 9, 2) := by decide +kernel
theorem d_Chains_compare_104 : decode b_Chains_compare 104 = .ok (.iadd, 1) := by decide +kernel
theorem d_Chains_compare_105 : decode b_Chains_compare 105 = .ok (.istore 7, 2) := by decide +kernel
theorem d_Chains_compare_107 : decode b_Chains_compare 107 = .ok (.aload_n 0, 1) := by decide +kernel
theorem d_Chains_compare_108 : decode b_Chains_compare 108 = .ok (.getfield 18, 3) := by decide +kernel
theorem d_Chains_compare_111 : decode b_Chains_compare 111 = .ok (.iload 5, 2) := by decide +kernel
theorem d_Chains_compare_113 : decode b_Chains_compare 113 = .ok (.bipush 32, 2) := by decide +kernel
theorem d_Chains_compare_115 : decode b_Chains_compare 115 = .ok (.imul, 1) := by decide +kernel
theorem d_Chains_compare_116 : decode b_Chains_compare 116 = .ok (.invokevirtual 22, 3) := by decide +kernel
theorem d_Chains_compare_119 : decode b_Chains_compare 119 = .ok (.istore 5, 2) := by decide +kernel
theorem d_Chains_compare_121 : decode b_Chains_compare 121 = .ok (.iconst 2, 1) := by decide +kernel
theorem d_Chains_compare_122 : decode b_Chains_compare 122 = .ok (.istore 6, 2) := by decide +kernel
theorem d_Chains_compare_124 : decode b_Chains_compare 124 = .ok (.iinc 8 1, 3) := by decide +kernel
theorem d_Chains_compare_127 : decode b_Chains_compare 127 = .ok (.goto (-90), 3) := by decide +kernel
theorem d_Chains_compare_130 : decode b_Chains_compare 130 = .ok (.aload_n 1, 1) := by decide +kernel
theorem d_Chains_compare_131 : decode b_Chains_compare 131 = .ok (.invokevirtual 38, 3) := by decide +kernel
theorem d_Chains_compare_134 : decode b_Chains_compare 134 = .ok (.iload_n 3, 1) := by decide +kernel
theorem d_Chains_compare_135 : decode b_Chains_compare 135 = .ok (.isub, 1) := by decide +kernel
theorem d_Chains_compare_136 : decode b_Chains_compare 136 = .ok (.ireturn, 1) := by decide +kernel
theorem d_Chains_write_0 : decode b_Chains_write 0 = .ok (.iconst 0, 1) := by decide +kernel
theorem d_Chains_write_1 : decode b_Chains_write 1 = .ok (.istore_n 2, 1) := by decide +kernel
theorem d_Chains_write_2 : decode b_Chains_write 2 = .ok (.iconst 0, 1) := by decide +kernel
theorem d_Chains_write_3 : decode b_Chains_write 3 = .ok (.istore_n 3, 1) := by decide +kernel
theorem d_Chains_write_4 : decode b_Chains_write 4 = .ok (.iload_n 3, 1) := by decide +kernel
theorem d_Chains_write_5 : decode b_Chains_write 5 = .ok (.sipush 2720, 3) := by decide +kernel
theorem d_Chains_write_8 : decode b_Chains_write 8 = .ok (.if_icmp .ge 119, 3) := by decide +kernel
theorem d_Chains_write_11 : decode b_Chains_write 11 = .ok (.iload_n 2, 1) := by decide +kernel
theorem d_Chains_write_12 : decode b_Chains_write 12 = .ok (.aload_n 1, 1) := by decide +kernel
theorem d_Chains_write_13 : decode b_Chains_write 13 = .ok (.invokevirtual 38, 3) := by decide +kernel
theorem d_Chains_write_16 : decode b_Chains_write 16 = .ok (.if_icmp .ge 111, 3) := by decide +kernel
theorem d_Chains_write_19 : decode b_Chains_write 19 = .ok (.aload_n 0, 1) := by decide +kernel
theorem d_Chains_write_20 : decode b_Chains_write 20 = .ok (.getfield 15, 3) := by decide +kernel
theorem d_Chains_write_23 : decode b_Chains_write 23 = .ok (.bipush 32, 2) := by decide +kernel
theorem d_Chains_write_25 : decode b_Chains_write 25 = .ok (.if_icmp .ne 39, 3) := by decide +kernel
theorem d_Chains_write_28 : decode b_Chains_write 28 = .ok (.aload_n 0, 1) := by decide +kernel
theorem d_Chains_write_29 : decode b_Chains_write 29 = .ok (.getfield 18, 3) := by decide +kernel
theorem d_Chains_write_32 : decode b_Chains_write 32 = .ok (.invokevirtual 34, 3) := by decide +kernel
theorem d_Chains_write_35 : decode b_Chains_write 35 = .ok (.istore 4, 2) := by decide +kernel
theorem d_Chains_write_37 : decode b_Chains_write 37 = .ok (.aload_n 0, 1) := by decide +kernel
theorem d_Chains_write_38 : decode b_Chains_write 38 = .ok (.getfield 18, 3) := by decide +kernel
theorem d_Chains_write_41 : decode b_Chains_write 41 = .ok (.aload_n 0, 1) := by decide +kernel
theorem d_Chains_write_42 : decode b_Chains_write 42 = .ok (.getfield 9, 3) := by decide +kernel
theorem d_Chains_write_45 : decode b_Chains_write 45 = .ok (.bipush 32, 2) := by decide +kernel
theorem d_Chains_write_47 : decode b_Chains_write 47 = .ok (.imul, 1) := by decide +kernel
theorem d_Chains_write_48 : decode b_Chains_write 48 = .ok (.iload 4, 2) := by decide +kernel
theorem d_Chains_write_50 : decode b_Chains_write 50 = .ok (.invokevirtual 43, 3) := by decide +kernel
theorem d_Chains_write_53 : decode b_Chains_write 53 = .ok (.aload_n 0, 1) := by decide +kernel
theorem d_Chains_write_54 : decode b_Chains_write 54 = .ok (.iload 4, 2) := by decide +kernel
theorem d_Chains_write_56 : decode b_Chains_write 56 = .ok (.putfield 9, 3) := by decide +kernel
theorem d_Chains_write_59 : decode b_Chains_write 59 = .ok (.aload_n 0, 1) := by decide +kernel
theorem d_Chains_write_60 : decode b_Chains_write 60 = .ok (.iconst 2, 1) := by decide +kernel
theorem d_Chains_write_61 : decode b_Chains_write 61 = .ok (.putfield 15, 3) := by decide +kernel
theorem d_Chains_write_64 : decode b_Chains_write 64 = .ok (.bipush 32, 2) := by decide +kernel
theorem d_Chains_write_66 : decode b_Chains_write 66 = .ok (.aload_n 0, 1) := by decide +kernel
theorem d_Chains_write_67 : decode b_Chains_write 67 = .ok (.getfield 15, 3) := by decide +kernel
theorem d_Chains_write_70 : decode b_Chains_write 70 = .ok (.isub, 1) := by decide +kernel
theorem d_Chains_write_71 : decode b_Chains_write 71 = .ok (.aload_n 1, 1) := by decide +kernel
theorem d_Chains_write_72 : decode b_Chains_write 72 = .ok (.invokevirtual 38, 3) := by decide +kernel
theorem d_Chains_write_75 : decode b_Chains_write 75 = .ok (.iload_n 2, 1) := by decide +kernel
theorem d_Chains_write_76 : decode b_Chains_write 76 = .ok (.isub, 1) := by decide +kernel
theorem d_Chains_write_77 : decode b_Chains_write 77 = .ok (.invokestatic 63, 3) := by decide +kernel
theorem d_Chains_write_80 : decode b_Chains_write 80 = .ok (.istore 4, 2) := by decide +kernel
theorem d_Chains_write_82 : decode b_Chains_write 82 = .ok (.aload_n 0, 1) := by decide +kernel
theorem d_Chains_write_83 : decode b_Chains_write 83 = .ok (.getfield 18, 3) := by decide +kernel
theorem d_Chains_write_86 : decode b_Chains_write 86 = .ok (.aload_n 1, 1) := by decide +kernel
theorem d_Chains_write_87 : decode b_Chains_write 87 = .ok (.iload_n 2, 1) := by decide +kernel
theorem d_Chains_write_88 : decode b_Chains_write 88 = .ok (.iload 4, 2) := by decide +kernel
theorem d_Chains_write_90 : decode b_Chains_write 90 = .ok (.aload_n 0, 1) := by decide +kernel
theorem d_Chains_write_91 : decode b_Chains_write 91 = .ok (.getfield 9, 3) := by decide +kernel
theorem d_Chains_write_94 : decode b_Chains_write 94 = .ok (.bipush 32, 2) := by decide +kernel
theorem d_Chains_write_96 : decode b_Chains_write 96 = .ok (.imul, 1) := by decide +kernel
theorem d_Chains_write_97 : decode b_Chains_write 97 = .ok (.aload_n 0, 1) := by decide +kernel
theorem d_Chains_write_98 : decode b_Chains_write 98 = .ok (.getfield 15, 3) := by decide +kernel
theorem d_Chains_write_101 : decode b_Chains_write 101 = .ok (.iadd, 1) := by decide +kernel
theorem d_Chains_write_102 : decode b_Chains_write 102 = .ok (.invokevirtual 77, 3) := by decide +kernel
theorem d_Chains_write_105 : decode b_Chains_write 105 = .ok (.aload_n 0, 1) := by decide +kernel
theorem d_Chains_write_106 : decode b_Chains_write 106 = .ok (.dup, 1) := by decide +kernel
theorem d_Chains_write_107 : decode b_Chains_write 107 = .ok (.getfield 15, 3) := by decide +kernel
theorem d_Chains_write_110 : decode b_Chains_write 110 = .ok (.iload 4, 2) := by decide +kernel
theorem d_Chains_write_112 : decode b_Chains_write 112 = .ok (.iadd, 1) := by decide +kernel
theorem d_Chains_write_113 : decode b_Chains_write 113 = .ok (.putfield 15, 3) := by decide +kernel
theorem d_Chains_write_116 : decode b_Chains_write 116 = .ok (.iload_n 2, 1) := by decide +kernel
theorem d_Chains_write_117 : decode b_Chains_write 117 = .ok (.iload 4, 2) := by decide +kernel
theorem d_Chains_write_119 : decode b_Chains_write 119 = .ok (.iadd, 1) := by decide +kernel
theorem d_Chains_write_120 : decode b_Chains_write 120 = .ok (.istore_n 2, 1) := by decide +kernel
theorem d_Chains_write_121 : decode b_Chains_write 121 = .ok (.iinc 3 1, 3) := by decide +kernel
theorem d_Chains_write_124 : decode b_Chains_write 124 = .ok (.goto (-120), 3) := by decide +kernel
theorem d_Chains_write_127 : decode b_Chains_write 127 = .ok (.return_, 1) := by decide +kernel
theorem d_Chains_read_0 : decode b_Chains_read 0 = .ok (.aload_n 1, 1) := by decide +kernel
theorem d_Chains_read_1 : decode b_Chains_read 1 = .ok (.invokevirtual 80, 3) := by decide +kernel
theorem d_Chains_read_4 : decode b_Chains_read 4 = .ok (.iconst 0, 1) := by decide +kernel
theorem d_Chains_read_5 : decode b_Chains_read 5 = .ok (.istore_n 3, 1) := by decide +kernel
theorem d_Chains_read_6 : decode b_Chains_read 6 = .ok (.iload_n 3, 1) := by decide +kernel
theorem d_Chains_read_7 : decode b_Chains_read 7 = .ok (.sipush 2720, 3) := by decide +kernel
theorem d_Chains_read_10 : decode b_Chains_read 10 = .ok (.if_icmp .ge 103, 3) := by decide +kernel
theorem d_Chains_read_13 : decode b_Chains_read 13 = .ok (.aload_n 1, 1) := by decide +kernel
theorem d_Chains_read_14 : decode b_Chains_read 14 = .ok (.invokevirtual 38, 3) := by decide +kernel
theorem d_Chains_read_17 : decode b_Chains_read 17 = .ok (.iload_n 2, 1) := by decide +kernel
theorem d_Chains_read_18 : decode b_Chains_read 18 = .ok (.if_icmp .ge 95, 3) := by decide +kernel
theorem d_Chains_read_21 : decode b_Chains_read 21 = .ok (.aload_n 0, 1) := by decide +kernel
theorem d_Chains_read_22 : decode b_Chains_read 22 = .ok (.getfield 15, 3) := by decide +kernel
theorem d_Chains_read_25 : decode b_Chains_read 25 = .ok (.bipush 32, 2) := by decide +kernel
theorem d_Chains_read_27 : decode b_Chains_read 27 = .ok (.if_icmp .ne 26, 3) := by decide +kernel
theorem d_Chains_read_30 : decode b_Chains_read 30 = .ok (.aload_n 0, 1) := by decide +kernel
theorem d_Chains_read_31 : decode b_Chains_read 31 = .ok (.aload_n 0, 1) := by decide +kernel
theorem d_Chains_read_32 : decode b_Chains_read 32 = .ok (.getfield 18, 3) := by decide +kernel
theorem d_Chains_read_35 : decode b_Chains_read 35 = .ok (.aload_n 0, 1) := by decide +kernel
theorem d_Chains_read_36 : decode b_Chains_read 36 = .ok (.getfield 9, 3) := by decide +kernel
theorem d_Chains_read_39 : decode b_Chains_read 39 = .ok (.bipush 32, 2) := by decide +kernel
theorem d_Chains_read_41 : decode b_Chains_read 41 = .ok (.imul, 1) := by decide +kernel
theorem d_Chains_read_42 : decode b_Chains_read 42 = .ok (.invokevirtual 22, 3) := by decide +kernel
theorem d_Chains_read_45 : decode b_Chains_read 45 = .ok (.putfield 9, 3) := by decide +kernel
theorem d_Chains_read_48 : decode b_Chains_read 48 = .ok (.aload_n 0, 1) := by decide +kernel
theorem d_Chains_read_49 : decode b_Chains_read 49 = .ok (.iconst 2, 1) := by decide +kernel
theorem d_Chains_read_50 : decode b_Chains_read 50 = .ok (.putfield 15, 3) := by decide +kernel
theorem d_Chains_read_53 : decode b_Chains_read 53 = .ok (.bipush 32, 2) := by decide +kernel
theorem d_Chains_read_55 : decode b_Chains_read 55 = .ok (.aload_n 0, 1) := by decide +kernel
theorem d_Chains_read_56 : decode b_Chains_read 56 = .ok (.getfield 15, 3) := by decide +kernel
theorem d_Chains_read_59 : decode b_Chains_read 59 = .ok (.isub, 1) := by decide +kernel
theorem d_Chains_read_60 : decode b_Chains_read 60 = .ok (.iload_n 2, 1) := by decide +kernel
theorem d_Chains_read_61 : decode b_Chains_read 61 = .ok (.aload_n 1, 1) := by decide +kernel
theorem d_Chains_read_62 : decode b_Chains_read 62 = .ok (.invokevirtual 38, 3) := by decide +kernel
theorem d_Chains_read_65 : decode b_Chains_read 65 = .ok (.isub, 1) := by decide +kernel
theorem d_Chains_read_66 : decode b_Chains_read 66 = .ok (.invokestatic 63, 3) := by decide +kernel
theorem d_Chains_read_69 : decode b_Chains_read 69 = .ok (.istore 4, 2) := by decide +kernel
theorem d_Chains_read_71 : decode b_Chains_read 71 = .ok (.aload_n 1, 1) := by decide +kernel
theorem d_Chains_read_72 : decode b_Chains_read 72 = .ok (.aload_n 0, 1) := by decide +kernel
theorem d_Chains_read_73 : decode b_Chains_read 73 = .ok (.getfield 18, 3) := by decide +kernel
theorem d_Chains_read_76 : decode b_Chains_read 76 = .ok (.invokevirtual 69, 3) := by decide +kernel
theorem d_Chains_read_79 : decode b_Chains_read 79 = .ok (.aload_n 0, 1) := by decide +kernel
theorem d_Chains_read_80 : decode b_Chains_read 80 = .ok (.getfield 9, 3) := by decide +kernel
theorem d_Chains_read_83 : decode b_Chains_read 83 = .ok (.bipush 32, 2) := by decide +kernel
theorem d_Chains_read_85 : decode b_Chains_read 85 = .ok (.imul, 1) := by decide +kernel
theorem d_Chains_read_86 : decode b_Chains_read 86 = .ok (.aload_n 0, 1) := by decide +kernel
theorem d_Chains_read_87 : decode b_Chains_read 87 = .ok (.getfield 15, 3) := by decide +kernel
theorem d_Chains_read_90 : decode b_Chains_read 90 = .ok (.iadd, 1) := by decide +kernel
theorem d_Chains_read_91 : decode b_Chains_read 91 = .ok (.iload 4, 2) := by decide +kernel
theorem d_Chains_read_93 : decode b_Chains_read 93 = .ok (.invokevirtual 83, 3) := by decide +kernel
theorem d_Chains_read_96 : decode b_Chains_read 96 = .ok (.aload_n 0, 1) := by decide +kernel
theorem d_Chains_read_97 : decode b_Chains_read 97 = .ok (.dup, 1) := by decide +kernel
theorem d_Chains_read_98 : decode b_Chains_read 98 = .ok (.getfield 15, 3) := by decide +kernel
theorem d_Chains_read_101 : decode b_Chains_read 101 = .ok (.iload 4, 2) := by decide +kernel
theorem d_Chains_read_103 : decode b_Chains_read 103 = .ok (.iadd, 1) := by decide +kernel
theorem d_Chains_read_104 : decode b_Chains_read 104 = .ok (.putfield 15, 3) := by decide +kernel
theorem d_Chains_read_107 : decode b_Chains_read 107 = .ok (.iinc 3 1, 3) := by decide +kernel
theorem d_Chains_read_110 : decode b_Chains_read 110 = .ok (.goto (-104), 3) := by decide +kernel
theorem d_Chains_read_113 : decode b_Chains_read 113 = .ok (.return_, 1) := by decide +kernel
theorem d_Nodes_init_0 : decode b_Nodes_init 0 = .ok (.aload_n 0, 1) := by decide +kernel
theorem d_Nodes_init_1 : decode b_Nodes_init 1 = .ok (.invokespecial 5, 3) := by decide +kernel
theorem d_Nodes_init_4 : decode b_Nodes_init 4 = .ok (.aload_n 0, 1) := by decide +kernel
theorem d_Nodes_init_5 : decode b_Nodes_init 5 = .ok (.bipush 28, 2) := by decide +kernel
theorem d_Nodes_init_7 : decode b_Nodes_init 7 = .ok (.newarray .int, 2) := by decide +kernel
theorem d_Nodes_init_9 : decode b_Nodes_init 9 = .ok (.putfield 11, 3) := by decide +kernel
theorem d_Nodes_init_12 : decode b_Nodes_init 12 = .ok (.aload_n 0, 1) := by decide +kernel
theorem d_Nodes_init_13 : decode b_Nodes_init 13 = .ok (.aload_n 1, 1) := by decide +kernel
theorem d_Nodes_init_14 : decode b_Nodes_init 14 = .ok (.putfield 15, 3) := by decide +kernel
theorem d_Nodes_init_17 : decode b_Nodes_init 17 = .ok (.return_, 1) := by decide +kernel
theorem d_Nodes_make_0 : decode b_Nodes_make 0 = .ok (.aload_n 0, 1) := by decide +kernel
theorem d_Nodes_make_1 : decode b_Nodes_make 1 = .ok (.getfield 15, 3) := by decide +kernel
theorem d_Nodes_make_4 : decode b_Nodes_make 4 = .ok (.invokevirtual 19, 3) := by decide +kernel
theorem d_Nodes_make_7 : decode b_Nodes_make 7 = .ok (.istore_n 2, 1) := by decide +kernel
theorem d_Nodes_make_8 : decode b_Nodes_make 8 = .ok (.aload_n 0, 1) := by decide +kernel
theorem d_Nodes_make_9 : decode b_Nodes_make 9 = .ok (.getfield 15, 3) := by decide +kernel
theorem d_Nodes_make_12 : decode b_Nodes_make 12 = .ok (.iload_n 2, 1) := by decide +kernel
theorem d_Nodes_make_13 : decode b_Nodes_make 13 = .ok (.bipush 32, 2) := by decide +kernel
theorem d_Nodes_make_15 : decode b_Nodes_make 15 = .ok (.imul, 1) := by decide +kernel
theorem d_Nodes_make_16 : decode b_Nodes_make 16 = .ok (.iconst 0, 1) := by decide +kernel
theorem d_Nodes_make_17 : decode b_Nodes_make 17 = .ok (.iadd, 1) := by decide +kernel
theorem d_Nodes_make_18 : decode b_Nodes_make 18 = .ok (.iload_n 1, 1) := by decide +kernel
theorem d_Nodes_make_19 : decode b_Nodes_make 19 = .ok (.invokevirtual 25, 3) := by decide +kernel
theorem d_Nodes_make_22 : decode b_Nodes_make 22 = .ok (.iload_n 2, 1) := by decide +kernel
theorem d_Nodes_make_23 : decode b_Nodes_make 23 = .ok (.ireturn, 1) := by decide +kernel
theorem d_Nodes_level_0 : decode b_Nodes_level 0 = .ok (.aload_n 0, 1) := by decide +kernel
theorem d_Nodes_level_1 : decode b_Nodes_level 1 = .ok (.getfield 15, 3) := by decide +kernel
theorem d_Nodes_level_4 : decode b_Nodes_level 4 = .ok (.iload_n 1, 1) := by decide +kernel
theorem d_Nodes_level_5 : decode b_Nodes_level 5 = .ok (.bipush 32, 2) := by decide +kernel
theorem d_Nodes_level_7 : decode b_Nodes_level 7 = .ok (.imul, 1) := by decide +kernel
theorem d_Nodes_level_8 : decode b_Nodes_level 8 = .ok (.iconst 0, 1) := by decide +kernel
theorem d_Nodes_level_9 : decode b_Nodes_level 9 = .ok (.iadd, 1) := by decide +kernel
theorem d_Nodes_level_10 : decode b_Nodes_level 10 = .ok (.invokevirtual 29, 3) := by decide +kernel
theorem d_Nodes_level_13 : decode b_Nodes_level 13 = .ok (.iconst 4, 1) := by decide +kernel
theorem d_Nodes_level_14 : decode b_Nodes_level 14 = .ok (.invokestatic 33, 3) := by decide +kernel
theorem d_Nodes_level_17 : decode b_Nodes_level 17 = .ok (.ireturn, 1) := by decide +kernel
theorem d_Nodes_count_0 : decode b_Nodes_count 0 = .ok (.aload_n 0, 1) := by decide +kernel
theorem d_Nodes_count_1 : decode b_Nodes_count 1 = .ok (.getfield 15, 3) := by decide +kernel
theorem d_Nodes_count_4 : decode b_Nodes_count 4 = .ok (.iload_n 1, 1) := by decide +kernel
theorem d_Nodes_count_5 : decode b_Nodes_count 5 = .ok (.bipush 32, 2) := by decide +kernel
theorem d_Nodes_count_7 : decode b_Nodes_count 7 = .ok (.imul, 1) := by decide +kernel
theorem d_Nodes_count_8 : decode b_Nodes_count 8 = .ok (.iconst 2, 1) := by decide +kernel
theorem d_Nodes_count_9 : decode b_Nodes_count 9 = .ok (.iadd, 1) := by decide +kernel
theorem d_Nodes_count_10 : decode b_Nodes_count 10 = .ok (.invokevirtual 29, 3) := by decide +kernel
theorem d_Nodes_count_13 : decode b_Nodes_count 13 = .ok (.bipush 14, 2) := by decide +kernel
theorem d_Nodes_count_15 : decode b_Nodes_count 15 = .ok (.invokestatic 33, 3) := by decide +kernel
theorem d_Nodes_count_18 : decode b_Nodes_count 18 = .ok (.ireturn, 1) := by decide +kernel
theorem d_Nodes_slot_0 : decode b_Nodes_slot 0 = .ok (.aload_n 0, 1) := by decide +kernel
theorem d_Nodes_slot_1 : decode b_Nodes_slot 1 = .ok (.getfield 15, 3) := by decide +kernel
theorem d_Nodes_slot_4 : decode b_Nodes_slot 4 = .ok (.iload_n 1, 1) := by decide +kernel
theorem d_Nodes_slot_5 : decode b_Nodes_slot 5 = .ok (.bipush 32, 2) := by decide +kernel
theorem d_Nodes_slot_7 : decode b_Nodes_slot 7 = .ok (.imul, 1) := by decide +kernel
theorem d_Nodes_slot_8 : decode b_Nodes_slot 8 = .ok (.iconst 4, 1) := by decide +kernel
theorem d_Nodes_slot_9 : decode b_Nodes_slot 9 = .ok (.iadd, 1) := by decide +kernel
theorem d_Nodes_slot_10 : decode b_Nodes_slot 10 = .ok (.iconst 2, 1) := by decide +kernel
theorem d_Nodes_slot_11 : decode b_Nodes_slot 11 = .ok (.iload_n 2, 1) := by decide +kernel
theorem d_Nodes_slot_12 : decode b_Nodes_slot 12 = .ok (.imul, 1) := by decide +kernel
theorem d_Nodes_slot_13 : decode b_Nodes_slot 13 = .ok (.iadd, 1) := by decide +kernel
theorem d_Nodes_slot_14 : decode b_Nodes_slot 14 = .ok (.invokevirtual 29, 3) := by decide +kernel
theorem d_Nodes_slot_17 : decode b_Nodes_slot 17 = .ok (.ireturn, 1) := by decide +kernel
theorem d_Nodes_least_0 : decode b_Nodes_least 0 = .ok (.iload_n 1, 1) := by decide +kernel
theorem d_Nodes_least_1 : decode b_Nodes_least 1 = .ok (.istore_n 3, 1) := by decide +kernel
theorem d_Nodes_least_2 : decode b_Nodes_least 2 = .ok (.iconst 0, 1) := by decide +kernel
theorem d_Nodes_least_3 : decode b_Nodes_least 3 = .ok (.istore 4, 2) := by decide +kernel
theorem d_Nodes_least_5 : decode b_Nodes_least 5 = .ok (.iload 4, 2) := by decide +kernel
theorem d_Nodes_least_7 : decode b_Nodes_least 7 = .ok (.iload_n 2, 1) := by decide +kernel
theorem d_Nodes_least_8 : decode b_Nodes_least 8 = .ok (.if_icmp .ge 23, 3) := by decide +kernel
theorem d_Nodes_least_11 : decode b_Nodes_least 11 = .ok (.aload_n 0, 1) := by decide +kernel
theorem d_Nodes_least_12 : decode b_Nodes_least 12 = .ok (.getfield 15, 3) := by decide +kernel
theorem d_Nodes_least_15 : decode b_Nodes_least 15 = .ok (.iload_n 3, 1) := by decide +kernel
theorem d_Nodes_least_16 : decode b_Nodes_least 16 = .ok (.bipush 32, 2) := by decide +kernel
theorem d_Nodes_least_18 : decode b_Nodes_least 18 = .ok (.imul, 1) := by decide +kernel
theorem d_Nodes_least_19 : decode b_Nodes_least 19 = .ok (.iconst 4, 1) := by decide +kernel
theorem d_Nodes_least_20 : decode b_Nodes_least 20 = .ok (.iadd, 1) := by decide +kernel
theorem d_Nodes_least_21 : decode b_Nodes_least 21 = .ok (.invokevirtual 29, 3) := by decide +kernel
theorem d_Nodes_least_24 : decode b_Nodes_least 24 = .ok (.istore_n 3, 1) := by decide +kernel
theorem d_Nodes_least_25 : decode b_Nodes_least 25 = .ok (.iinc 4 1, 3) := by decide +kernel
theorem d_Nodes_least_28 : decode b_Nodes_least 28 = .ok (.goto (-23), 3) := by decide +kernel
theorem d_Nodes_least_31 : decode b_Nodes_least 31 = .ok (.iload_n 3, 1) := by decide +kernel
theorem d_Nodes_least_32 : decode b_Nodes_least 32 = .ok (.ireturn, 1) := by decide +kernel
theorem d_Nodes_isFull_0 : decode b_Nodes_isFull 0 = .ok (.aload_n 0, 1) := by decide +kernel
theorem d_Nodes_isFull_1 : decode b_Nodes_isFull 1 = .ok (.iload_n 1, 1) := by decide +kernel
theorem d_Nodes_isFull_2 : decode b_Nodes_isFull 2 = .ok (.invokevirtual 39, 3) := by decide +kernel
theorem d_Nodes_isFull_5 : decode b_Nodes_isFull 5 = .ok (.bipush 14, 2) := by decide +kernel
theorem d_Nodes_isFull_7 : decode b_Nodes_isFull 7 = .ok (.if_icmp .ne 7, 3) := by decide +kernel
theorem d_Nodes_isFull_10 : decode b_Nodes_isFull 10 = .ok (.iconst 1, 1) := by decide +kernel
theorem d_Nodes_isFull_11 : decode b_Nodes_isFull 11 = .ok (.goto 4, 3) := by decide +kernel
theorem d_Nodes_isFull_14 : decode b_Nodes_isFull 14 = .ok (.iconst 0, 1) := by decide +kernel
theorem d_Nodes_isFull_15 : decode b_Nodes_isFull 15 = .ok (.ireturn, 1) := by decide +kernel
theorem d_Nodes_isSparse_0 : decode b_Nodes_isSparse 0 = .ok (.aload_n 0, 1) := by decide +kernel
theorem d_Nodes_isSparse_1 : decode b_Nodes_isSparse 1 = .ok (.iload_n 1, 1) := by decide +kernel
theorem d_Nodes_isSparse_2 : decode b_Nodes_isSparse 2 = .ok (.invokevirtual 39, 3) := by decide +kernel
theorem d_Nodes_isSparse_5 : decode b_Nodes_isSparse 5 = .ok (.bipush 7, 2) := by decide +kernel
theorem d_Nodes_isSparse_7 : decode b_Nodes_isSparse 7 = .ok (.if_icmp .ge 7, 3) := by decide +kernel
theorem d_Nodes_isSparse_10 : decode b_Nodes_isSparse 10 = .ok (.iconst 1, 1) := by decide +kernel
theorem d_Nodes_isSparse_11 : decode b_Nodes_isSparse 11 = .ok (.goto 4, 3) := by decide +kernel
theorem d_Nodes_isSparse_14 : decode b_Nodes_isSparse 14 = .ok (.iconst 0, 1) := by decide +kernel
theorem d_Nodes_isSparse_15 : decode b_Nodes_isSparse 15 = .ok (.ireturn, 1) := by decide +kernel
theorem d_Nodes_insert_0 : decode b_Nodes_insert 0 = .ok (.aload_n 0, 1) := by decide +kernel
theorem d_Nodes_insert_1 : decode b_Nodes_insert 1 = .ok (.iload_n 1, 1) := by decide +kernel
theorem d_Nodes_insert_2 : decode b_Nodes_insert 2 = .ok (.invokevirtual 39, 3) := by decide +kernel
theorem d_Nodes_insert_5 : decode b_Nodes_insert 5 = .ok (.istore 4, 2) := by decide +kernel
theorem d_Nodes_insert_7 : decode b_Nodes_insert 7 = .ok (.iload_n 2, 1) := by decide +kernel
theorem d_Nodes_insert_8 : decode b_Nodes_insert 8 = .ok (.ifCond .lt 16, 3) := by decide +kernel
theorem d_Nodes_insert_11 : decode b_Nodes_insert 11 = .ok (.iload_n 2, 1) := by decide +kernel
theorem d_Nodes_insert_12 : decode b_Nodes_insert 12 = .ok (.iload 4, 2) := by decide +kernel
theorem d_Nodes_insert_14 : decode b_Nodes_insert 14 = .ok (.if_icmp .gt 10, 3) := by decide +kernel
theorem d_Nodes_insert_17 : decode b_Nodes_insert 17 = .ok (.iload 4, 2) := by decide +kernel
theorem d_Nodes_insert_19 : decode b_Nodes_insert 19 = .ok (.bipush 14, 2) := by decide +kernel
theorem d_Nodes_insert_21 : decode b_Nodes_insert 21 = .ok (.if_icmp .lt 4, 3) := by decide +kernel
theorem d_Nodes_insert_24 : decode b_Nodes_insert 24 = .ok (.return_, 1) := by decide +kernel
theorem d_Nodes_insert_25 : decode b_Nodes_insert 25 = .ok (.iload 4, 2) := by decide +kernel
theorem d_Nodes_insert_27 : decode b_Nodes_insert 27 = .ok (.istore 5, 2) := by decide +kernel
theorem d_Nodes_insert_29 : decode b_Nodes_insert 29 = .ok (.iload 5, 2) := by decide +kernel
theorem d_Nodes_insert_31 : decode b_Nodes_insert 31 = .ok (.iload_n 2, 1) := by decide +kernel
theorem d_Nodes_insert_32 : decode b_Nodes_insert 32 = .ok (.if_icmp .le 25, 3) := by decide +kernel
theorem d_Nodes_insert_35 : decode b_Nodes_insert 35 = .ok (.aload_n 0, 1) := by decide +kernel
theorem d_Nodes_insert_36 : decode b_Nodes_insert 36 = .ok (.iload_n 1, 1) := by decide +kernel
theorem d_Nodes_insert_37 : decode b_Nodes_insert 37 = .ok (.iload 5, 2) := by decide +kernel
theorem d_Nodes_insert_39 : decode b_Nodes_insert 39 = .ok (.aload_n 0, 1) := by decide +kernel
theorem d_Nodes_insert_40 : decode b_Nodes_insert 40 = .ok (.iload_n 1, 1) := by decide +kernel
theorem d_Nodes_insert_41 : decode b_Nodes_insert 41 = .ok (.iload 5, 2) := by decide +kernel
theorem d_Nodes_insert_43 : decode b_Nodes_insert 43 = .ok (.iconst 1, 1) := by decide +kernel
theorem d_Nodes_insert_44 : decode b_Nodes_insert 44 = .ok (.isub, 1) := by decide +kernel
theorem d_Nodes_insert_45 : decode b_Nodes_insert 45 = .ok (.invokevirtual 42, 3) := by decide +kernel
theorem d_Nodes_insert_48 : decode b_Nodes_insert 48 = .ok (.invokevirtual 45, 3) := by decide +kernel
theorem d_Nodes_insert_51 : decode b_Nodes_insert 51 = .ok (.iinc 5 (-1), 3) := by decide +kernel
theorem d_Nodes_insert_54 : decode b_Nodes_insert 54 = .ok (.goto (-25), 3) := by decide +kernel
theorem d_Nodes_insert_57 : decode b_Nodes_insert 57 = .ok (.aload_n 0, 1) := by decide +kernel
theorem d_Nodes_insert_58 : decode b_Nodes_insert 58 = .ok (.iload_n 1, 1) := by decide +kernel
theorem d_Nodes_insert_59 : decode b_Nodes_insert 59 = .ok (.iload_n 2, 1) := by decide +kernel
theorem d_Nodes_insert_60 : decode b_Nodes_insert 60 = .ok (.iload_n 3, 1) := by decide +kernel
theorem d_Nodes_insert_61 : decode b_Nodes_insert 61 = .ok (.invokevirtual 45, 3) := by decide +kernel
theorem d_Nodes_insert_64 : decode b_Nodes_insert 64 = .ok (.aload_n 0, 1) := by decide +kernel
theorem d_Nodes_insert_65 : decode b_Nodes_insert 65 = .ok (.iload_n 1, 1) := by decide +kernel
theorem d_Nodes_insert_66 : decode b_Nodes_insert 66 = .ok (.iload 4, 2) := by decide +kernel
theorem d_Nodes_insert_68 : decode b_Nodes_insert 68 = .ok (.iconst 1, 1) := by decide +kernel
theorem d_Nodes_insert_69 : decode b_Nodes_insert 69 = .ok (.iadd, 1) := by decide +kernel
theorem d_Nodes_insert_70 : decode b_Nodes_insert 70 = .ok (.invokevirtual 49, 3) := by decide +kernel
theorem d_Nodes_insert_73 : decode b_Nodes_insert 73 = .ok (.return_, 1) := by decide +kernel
theorem d_Nodes_delete_0 : decode b_Nodes_delete 0 = .ok (.aload_n 0, 1) := by decide +kernel
theorem d_Nodes_delete_1 : decode b_Nodes_delete 1 = .ok (.iload_n 1, 1) := by decide +kernel
theorem d_Nodes_delete_2 : decode b_Nodes_delete 2 = .ok (.invokevirtual 39, 3) := by decide +kernel
theorem d_Nodes_delete_5 : decode b_Nodes_delete 5 = .ok (.istore_n 3, 1) := by decide +kernel
theorem d_Nodes_delete_6 : decode b_Nodes_delete 6 = .ok (.iload_n 2, 1) := by decide +kernel
theorem d_Nodes_delete_7 : decode b_Nodes_delete 7 = .ok (.ifCond .lt 8, 3) := by decide +kernel
theorem d_Nodes_delete_10 : decode b_Nodes_delete 10 = .ok (.iload_n 2, 1) := by decide +kernel
theorem d_Nodes_delete_11 : decode b_Nodes_delete 11 = .ok (.iload_n 3, 1) := by decide +kernel
theorem d_Nodes_delete_12 : decode b_Nodes_delete 12 = .ok (.if_icmp .lt 4, 3) := by decide +kernel
theorem d_Nodes_delete_15 : decode b_Nodes_delete 15 = .ok (.return_, 1) := by decide +kernel
theorem d_Nodes_delete_16 : decode b_Nodes_delete 16 = .ok (.iload_n 2, 1) := by decide +kernel
theorem d_Nodes_delete_17 : decode b_Nodes_delete 17 = .ok (.istore 4, 2) := by decide +kernel
theorem d_Nodes_delete_19 : decode b_Nodes_delete 19 = .ok (.iload 4, 2) := by decide +kernel
theorem d_Nodes_delete_21 : decode b_Nodes_delete 21 = .ok (.iload_n 3, 1) := by decide +kernel
theorem d_Nodes_delete_22 : decode b_Nodes_delete 22 = .ok (.iconst 1, 1) := by decide +kernel
theorem d_Nodes_delete_23 : decode b_Nodes_delete 23 = .ok (.isub, 1) := by decide +kernel
theorem d_Nodes_delete_24 : decode b_Nodes_delete 24 = .ok (.if_icmp .ge 25, 3) := by decide +kernel
theorem d_Nodes_delete_27 : decode b_Nodes_delete 27 = .ok (.aload_n 0, 1) := by decide +kernel
theorem d_Nodes_delete_28 : decode b_Nodes_delete 28 = .ok (.iload_n 1, 1) := by decide +kernel
theorem d_Nodes_delete_29 : decode b_Nodes_delete 29 = .ok (.iload 4, 2) := by decide +kernel
theorem d_Nodes_delete_31 : decode b_Nodes_delete 31 = .ok (.aload_n 0, 1) := by decide +kernel
theorem d_Nodes_delete_32 : decode b_Nodes_delete 32 = .ok (.iload_n 1, 1) := by decide +kernel
theorem d_Nodes_delete_33 : decode b_Nodes_delete 33 = .ok (.iload 4, 2) := by decide +kernel
theorem d_Nodes_delete_35 : decode b_Nodes_delete 35 = .ok (.iconst 1, 1) := by decide +kernel
theorem d_Nodes_delete_36 : decode b_Nodes_delete 36 = .ok (.iadd, 1) := by decide +kernel
theorem d_Nodes_delete_37 : decode b_Nodes_delete 37 = .ok (.invokevirtual 42, 3) := by decide +kernel
theorem d_Nodes_delete_40 : decode b_Nodes_delete 40 = .ok (.invokevirtual 45, 3) := by decide +kernel
theorem d_Nodes_delete_43 : decode b_Nodes_delete 43 = .ok (.iinc 4 1, 3) := by decide +kernel
theorem d_Nodes_delete_46 : decode b_Nodes_delete 46 = .ok (.goto (-27), 3) := by decide +kernel
theorem d_Nodes_delete_49 : decode b_Nodes_delete 49 = .ok (.aload_n 0, 1) := by decide +kernel
theorem d_Nodes_delete_50 : decode b_Nodes_delete 50 = .ok (.iload_n 1, 1) := by decide +kernel
theorem d_Nodes_delete_51 : decode b_Nodes_delete 51 = .ok (.iload_n 3, 1) := by decide +kernel
theorem d_Nodes_delete_52 : decode b_Nodes_delete 52 = .ok (.iconst 1, 1) := by decide +kernel
theorem d_Nodes_delete_53 : decode b_Nodes_delete 53 = .ok (.isub, 1) := by decide +kernel
theorem d_Nodes_delete_54 : decode b_Nodes_delete 54 = .ok (.invokevirtual 49, 3) := by decide +kernel
theorem d_Nodes_delete_57 : decode b_Nodes_delete 57 = .ok (.return_, 1) := by decide +kernel
theorem d_Nodes_setSlot_0 : decode b_Nodes_setSlot 0 = .ok (.aload_n 0, 1) := by decide +kernel
theorem d_Nodes_setSlot_1 : decode b_Nodes_setSlot 1 = .ok (.getfield 15, 3) := by decide +kernel
theorem d_Nodes_setSlot_4 : decode b_Nodes_setSlot 4 = .ok (.iload_n 1, 1) := by decide +kernel
theorem d_Nodes_setSlot_5 : decode b_Nodes_setSlot 5 = .ok (.bipush 32, 2) := by decide +kernel
theorem d_Nodes_setSlot_7 : decode b_Nodes_setSlot 7 = .ok (.imul, 1) := by decide +kernel
theorem d_Nodes_setSlot_8 : decode b_Nodes_setSlot 8 = .ok (.iconst 4, 1) := by decide +kernel
theorem d_Nodes_setSlot_9 : decode b_Nodes_setSlot 9 = .ok (.iadd, 1) := by decide +kernel
theorem d_Nodes_setSlot_10 : decode b_Nodes_setSlot 10 = .ok (.iconst 2, 1) := by decide +kernel
theorem d_Nodes_setSlot_11 : decode b_Nodes_setSlot 11 = .ok (.iload_n 2, 1) := by decide +kernel
theorem d_Nodes_setSlot_12 : decode b_Nodes_setSlot 12 = .ok (.imul, 1) := by decide +kernel
theorem d_Nodes_setSlot_13 : decode b_Nodes_setSlot 13 = .ok (.iadd, 1) := by decide +kernel
theorem d_Nodes_setSlot_14 : decode b_Nodes_setSlot 14 = .ok (.iload_n 3, 1) := by decide +kernel
theorem d_Nodes_setSlot_15 : decode b_Nodes_setSlot 15 = .ok (.invokevirtual 25, 3) := by decide +kernel
theorem d_Nodes_setSlot_18 : decode b_Nodes_setSlot 18 = .ok (.return_, 1) := by decide +kernel
theorem d_Nodes_split_0 : decode b_Nodes_split 0 = .ok (.aload_n 0, 1) := by decide +kernel
theorem d_Nodes_split_1 : decode b_Nodes_split 1 = .ok (.aload_n 0, 1) := by decide +kernel
theorem d_Nodes_split_2 : decode b_Nodes_split 2 = .ok (.iload_n 1, 1) := by decide +kernel
theorem d_Nodes_split_3 : decode b_Nodes_split 3 = .ok (.invokevirtual 52, 3) := by decide +kernel
theorem d_Nodes_split_6 : decode b_Nodes_split 6 = .ok (.invokevirtual 55, 3) := by decide +kernel
theorem d_Nodes_split_9 : decode b_Nodes_split 9 = .ok (.istore_n 2, 1) := by decide +kernel
theorem d_Nodes_split_10 : decode b_Nodes_split 10 = .ok (.aload_n 0, 1) := by decide +kernel
theorem d_Nodes_split_11 : decode b_Nodes_split 11 = .ok (.iload_n 1, 1) := by decide +kernel
theorem d_Nodes_split_12 : decode b_Nodes_split 12 = .ok (.iload_n 2, 1) := by decide +kernel
theorem d_Nodes_split_13 : decode b_Nodes_split 13 = .ok (.aload_n 0, 1) := by decide +kernel
theorem d_Nodes_split_14 : decode b_Nodes_split 14 = .ok (.iload_n 1, 1) := by decide +kernel
theorem d_Nodes_split_15 : decode b_Nodes_split 15 = .ok (.invokevirtual 39, 3) := by decide +kernel
theorem d_Nodes_split_18 : decode b_Nodes_split 18 = .ok (.iconst 2, 1) := by decide +kernel
theorem d_Nodes_split_19 : decode b_Nodes_split 19 = .ok (.idiv, 1) := by decide +kernel
theorem d_Nodes_split_20 : decode b_Nodes_split 20 = .ok (.invokevirtual 58, 3) := by decide +kernel
theorem d_Nodes_split_23 : decode b_Nodes_split 23 = .ok (.iload_n 2, 1) := by decide +kernel
theorem d_Nodes_split_24 : decode b_Nodes_split 24 = .ok (.ireturn, 1) := by decide +kernel
theorem d_Nodes_merge_0 : decode b_Nodes_merge 0 = .ok (.aload_n 0, 1) := by decide +kernel
theorem d_Nodes_merge_1 : decode b_Nodes_merge 1 = .ok (.iload_n 1, 1) := by decide +kernel
theorem d_Nodes_merge_2 : decode b_Nodes_merge 2 = .ok (.invokevirtual 39, 3) := by decide +kernel
theorem d_Nodes_merge_5 : decode b_Nodes_merge 5 = .ok (.aload_n 0, 1) := by decide +kernel
theorem d_Nodes_merge_6 : decode b_Nodes_merge 6 = .ok (.iload_n 2, 1) := by decide +kernel
theorem d_Nodes_merge_7 : decode b_Nodes_merge 7 = .ok (.invokevirtual 39, 3) := by decide +kernel
theorem d_Nodes_merge_10 : decode b_Nodes_merge 10 = .ok (.iadd, 1) := by decide +kernel
theorem d_Nodes_merge_11 : decode b_Nodes_merge 11 = .ok (.istore_n 3, 1) := by decide +kernel
theorem d_Nodes_merge_12 : decode b_Nodes_merge 12 = .ok (.iload_n 3, 1) := by decide +kernel
theorem d_Nodes_merge_13 : decode b_Nodes_merge 13 = .ok (.bipush 14, 2) := by decide +kernel
theorem d_Nodes_merge_15 : decode b_Nodes_merge 15 = .ok (.if_icmp .le 14, 3) := by decide +kernel
theorem d_Nodes_merge_18 : decode b_Nodes_merge 18 = .ok (.aload_n 0, 1) := by decide +kernel
theorem d_Nodes_merge_19 : decode b_Nodes_merge 19 = .ok (.iload_n 1, 1) := by decide +kernel
theorem d_Nodes_merge_20 : decode b_Nodes_merge 20 = .ok (.iload_n 2, 1) := by decide +kernel
theorem d_Nodes_merge_21 : decode b_Nodes_merge 21 = .ok (.iload_n 3, 1) := by decide +kernel
theorem d_Nodes_merge_22 : decode b_Nodes_merge 22 = .ok (.iconst 2, 1) := by decide +kernel
theorem d_Nodes_merge_23 : decode b_Nodes_merge 23 = .ok (.idiv, 1) := by decide +kernel
theorem d_Nodes_merge_24 : decode b_Nodes_merge 24 = .ok (.invokevirtual 58, 3) := by decide +kernel
theorem d_Nodes_merge_27 : decode b_Nodes_merge 27 = .ok (.iconst 0, 1) := by decide +kernel
theorem d_Nodes_merge_28 : decode b_Nodes_merge 28 = .ok (.ireturn, 1) := by decide +kernel
theorem d_Nodes_merge_29 : decode b_Nodes_merge 29 = .ok (.aload_n 0, 1) := by decide +kernel
theorem d_Nodes_merge_30 : decode b_Nodes_merge 30 = .ok (.iload_n 1, 1) := by decide +kernel
theorem d_Nodes_merge_31 : decode b_Nodes_merge 31 = .ok (.iload_n 2, 1) := by decide +kernel
theorem d_Nodes_merge_32 : decode b_Nodes_merge 32 = .ok (.iload_n 3, 1) := by decide +kernel
theorem d_Nodes_merge_33 : decode b_Nodes_merge 33 = .ok (.invokevirtual 58, 3) := by decide +kernel
theorem d_Nodes_merge_36 : decode b_Nodes_merge 36 = .ok (.aload_n 0, 1) := by decide +kernel
theorem d_Nodes_merge_37 : decode b_Nodes_merge 37 = .ok (.getfield 15, 3) := by decide +kernel
theorem d_Nodes_merge_40 : decode b_Nodes_merge 40 = .ok (.iload_n 2, 1) := by decide +kernel
theorem d_Nodes_merge_41 : decode b_Nodes_merge 41 = .ok (.invokevirtual 61, 3) := by decide +kernel
theorem d_Nodes_merge_44 : decode b_Nodes_merge 44 = .ok (.iconst 1, 1) := by decide +kernel
theorem d_Nodes_merge_45 : decode b_Nodes_merge 45 = .ok (.ireturn, 1) := by decide +kernel
theorem d_Nodes_share_0 : decode b_Nodes_share 0 = .ok (.aload_n 0, 1) := by decide +kernel
theorem d_Nodes_share_1 : decode b_Nodes_share 1 = .ok (.iload_n 1, 1) := by decide +kernel
theorem d_Nodes_share_2 : decode b_Nodes_share 2 = .ok (.invokevirtual 39, 3) := by decide +kernel
theorem d_Nodes_share_5 : decode b_Nodes_share 5 = .ok (.istore 4, 2) := by decide +kernel
theorem d_Nodes_share_7 : decode b_Nodes_share 7 = .ok (.iload 4, 2) := by decide +kernel
theorem d_Nodes_share_9 : decode b_Nodes_share 9 = .ok (.aload_n 0, 1) := by decide +kernel
theorem d_Nodes_share_10 : decode b_Nodes_share 10 = .ok (.iload_n 2, 1) := by decide +kernel
theorem d_Nodes_share_11 : decode b_Nodes_share 11 = .ok (.invokevirtual 39, 3) := by decide +kernel
theorem d_Nodes_share_14 : decode b_Nodes_share 14 = .ok (.iadd, 1) := by decide +kernel
theorem d_Nodes_share_15 : decode b_Nodes_share 15 = .ok (.istore 5, 2) := by decide +kernel
theorem d_Nodes_share_17 : decode b_Nodes_share 17 = .ok (.iconst 0, 1) := by decide +kernel
theorem d_Nodes_share_18 : decode b_Nodes_share 18 = .ok (.istore 6, 2) := by decide +kernel
theorem d_Nodes_share_20 : decode b_Nodes_share 20 = .ok (.iload 6, 2) := by decide +kernel
theorem d_Nodes_share_22 : decode b_Nodes_share 22 = .ok (.iload 5, 2) := by decide +kernel
theorem d_Nodes_share_24 : decode b_Nodes_share 24 = .ok (.if_icmp .ge 43, 3) := by decide +kernel
theorem d_Nodes_share_27 : decode b_Nodes_share 27 = .ok (.aload_n 0, 1) := by decide +kernel
theorem d_Nodes_share_28 : decode b_Nodes_share 28 = .ok (.getfield 11, 3) := by decide +kernel
theorem d_Nodes_share_31 : decode b_Nodes_share 31 = .ok (.iload 6, 2) := by decide +kernel
theorem d_Nodes_share_33 : decode b_Nodes_share 33 = .ok (.iload 6, 2) := by decide +kernel
theorem d_Nodes_share_35 : decode b_Nodes_share 35 = .ok (.iload 4, 2) := by decide +kernel
theorem d_Nodes_share_37 : decode b_Nodes_share 37 = .ok (.if_icmp .ge 13, 3) := by decide +kernel
theorem d_Nodes_share_40 : decode b_Nodes_share 40 = .ok (.aload_n 0, 1) := by decide +kernel
theorem d_Nodes_share_41 : decode b_Nodes_share 41 = .ok (.iload_n 1, 1) := by decide +kernel
theorem d_Nodes_share_42 : decode b_Nodes_share 42 = .ok (.iload 6, 2) := by decide +kernel
theorem d_Nodes_share_44 : decode b_Nodes_share 44 = .ok (.invokevirtual 42, 3) := by decide +kernel
theorem d_Nodes_share_47 : decode b_Nodes_share 47 = .ok (.goto 13, 3) := by decide +kernel
theorem d_Nodes_share_50 : decode b_Nodes_share 50 = .ok (.aload_n 0, 1) := by decide +kernel
theorem d_Nodes_share_51 : decode b_Nodes_share 51 = .ok (.iload_n 2, 1) := by decide +kernel
theorem d_Nodes_share_52 : decode b_Nodes_share 52 = .ok (.iload 6, 2) := by decide +kernel
theorem d_Nodes_share_54 : decode b_Nodes_share 54 = .ok (.iload 4, 2) := by decide +kernel
theorem d_Nodes_share_56 : decode b_Nodes_share 56 = .ok (.isub, 1) := by decide +kernel
theorem d_Nodes_share_57 : decode b_Nodes_share 57 = .ok (.invokevirtual 42, 3) := by decide +kernel
theorem d_Nodes_share_60 : decode b_Nodes_share 60 = .ok (.iastore, 1) := by decide +kernel
theorem d_Nodes_share_61 : decode b_Nodes_share 61 = .ok (.iinc 6 1, 3) := by decide +kernel
theorem d_Nodes_share_64 : decode b_Nodes_share 64 = .ok (.goto (-44), 3) := by decide +kernel
theorem d_Nodes_share_67 : decode b_Nodes_share 67 = .ok (.iconst 0, 1) := by decide +kernel
theorem d_Nodes_share_68 : decode b_Nodes_share 68 = .ok (.istore 6, 2) := by decide +kernel
theorem d_Nodes_share_70 : decode b_Nodes_share 70 = .ok (.iload 6, 2) := by decide +kernel
theorem d_Nodes_share_72 : decode b_Nodes_share 72 = .ok (.iload_n 3, 1) := by decide +kernel
theorem d_Nodes_share_73 : decode b_Nodes_share 73 = .ok (.if_icmp .ge 23, 3) := by decide +kernel
theorem d_Nodes_share_76 : decode b_Nodes_share 76 = .ok (.aload_n 0, 1) := by decide +kernel
theorem d_Nodes_share_77 : decode b_Nodes_share 77 = .ok (.iload_n 1, 1) := by decide +kernel
theorem d_Nodes_share_78 : decode b_Nodes_share 78 = .ok (.iload 6, 2) := by decide +kernel
theorem d_Nodes_share_80 : decode b_Nodes_share 80 = .ok (.aload_n 0, 1) := by decide +kernel
theorem d_Nodes_share_81 : decode b_Nodes_share 81 = .ok (.getfield 11, 3) := by decide +kernel
theorem d_Nodes_share_84 : decode b_Nodes_share 84 = .ok (.iload 6, 2) := by decide +kernel
theorem d_Nodes_share_86 : decode b_Nodes_share 86 = .ok (.iaload, 1) := by decide +kernel
theorem d_Nodes_share_87 : decode b_Nodes_share 87 = .ok (.invokevirtual 45, 3) := by decide +kernel
theorem d_Nodes_share_90 : decode b_Nodes_share 90 = .ok (.iinc 6 1, 3) := by decide +kernel
theorem d_Nodes_share_93 : decode b_Nodes_share 93 = .ok (.goto (-23), 3) := by decide +kernel
theorem d_Nodes_share_96 : decode b_Nodes_share 96 = .ok (.iload_n 3, 1) := by decide +kernel
theorem d_Nodes_share_97 : decode b_Nodes_share 97 = .ok (.istore 6, 2) := by decide +kernel
theorem d_Nodes_share_99 : decode b_Nodes_share 99 = .ok (.iload 6, 2) := by decide +kernel
theorem d_Nodes_share_101 : decode b_Nodes_share 101 = .ok (.iload 5, 2) := by decide +kernel
theorem d_Nodes_share_103 : decode b_Nodes_share 103 = .ok (.if_icmp .ge 25, 3) := by decide +kernel
theorem d_Nodes_share_106 : decode b_Nodes_share 106 = .ok (.aload_n 0, 1) := by decide +kernel
theorem d_Nodes_share_107 : decode b_Nodes_share 107 = .ok (.iload_n 2, 1) := by decide +kernel
theorem d_Nodes_share_108 : decode b_Nodes_share 108 = .ok (.iload 6, 2) := by decide +kernel
theorem d_Nodes_share_110 : decode b_Nodes_share 110 = .ok (.iload_n 3, 1) := by decide +kernel
theorem d_Nodes_share_111 : decode b_Nodes_share 111 = .ok (.isub, 1) := by decide +kernel
theorem d_Nodes_share_112 : decode b_Nodes_share 112 = .ok (.aload_n 0, 1) := by decide +kernel
theorem d_Nodes_share_113 : decode b_Nodes_share 113 = .ok (.getfield 11, 3) := by decide +kernel
theorem d_Nodes_share_116 : decode b_Nodes_share 116 = .ok (.iload 6, 2) := by decide +kernel
theorem d_Nodes_share_118 : decode b_Nodes_share 118 = .ok (.iaload, 1) := by decide +kernel
theorem d_Nodes_share_119 : decode b_Nodes_share 119 = .ok (.invokevirtual 45, 3) := by decide +kernel
theorem d_Nodes_share_122 : decode b_Nodes_share 122 = .ok (.iinc 6 1, 3) := by decide +kernel
theorem d_Nodes_share_125 : decode b_Nodes_share 125 = .ok (.goto (-26), 3) := by decide +kernel
theorem d_Nodes_share_128 : decode b_Nodes_share 128 = .ok (.aload_n 0, 1) := by decide +kernel
theorem d_Nodes_share_129 : decode b_Nodes_share 129 = .ok (.iload_n 1, 1) := by decide +kernel
theorem d_Nodes_share_130 : decode b_Nodes_share 130 = .ok (.iload_n 3, 1) := by decide +kernel
theorem d_Nodes_share_131 : decode b_Nodes_share 131 = .ok (.invokevirtual 49, 3) := by decide +kernel
theorem d_Nodes_share_134 : decode b_Nodes_share 134 = .ok (.aload_n 0, 1) := by decide +kernel
theorem d_Nodes_share_135 : decode b_Nodes_share 135 = .ok (.iload_n 2, 1) := by decide +kernel
theorem d_Nodes_share_136 : decode b_Nodes_share 136 = .ok (.iload 5, 2) := by decide +kernel
theorem d_Nodes_share_138 : decode b_Nodes_share 138 = .ok (.iload_n 3, 1) := by decide +kernel
theorem d_Nodes_share_139 : decode b_Nodes_share 139 = .ok (.isub, 1) := by decide +kernel
theorem d_Nodes_share_140 : decode b_Nodes_share 140 = .ok (.invokevirtual 49, 3) := by decide +kernel
theorem d_Nodes_share_143 : decode b_Nodes_share 143 = .ok (.return_, 1) := by decide +kernel
theorem d_Nodes_setCount_0 : decode b_Nodes_setCount 0 = .ok (.aload_n 0, 1) := by decide +kernel
theorem d_Nodes_setCount_1 : decode b_Nodes_setCount 1 = .ok (.getfield 15, 3) := by decide +kernel
theorem d_Nodes_setCount_4 : decode b_Nodes_setCount 4 = .ok (.iload_n 1, 1) := by decide +kernel
theorem d_Nodes_setCount_5 : decode b_Nodes_setCount 5 = .ok (.bipush 32, 2) := by decide +kernel
theorem d_Nodes_setCount_7 : decode b_Nodes_setCount 7 = .ok (.imul, 1) := by decide +kernel
theorem d_Nodes_setCount_8 : decode b_Nodes_setCount 8 = .ok (.iconst 2, 1) := by decide +kernel
theorem d_Nodes_setCount_9 : decode b_Nodes_setCount 9 = .ok (.iadd, 1) := by decide +kernel
theorem d_Nodes_setCount_10 : decode b_Nodes_setCount 10 = .ok (.iload_n 2, 1) := by decide +kernel
theorem d_Nodes_setCount_11 : decode b_Nodes_setCount 11 = .ok (.invokevirtual 25, 3) := by decide +kernel
theorem d_Nodes_setCount_14 : decode b_Nodes_setCount 14 = .ok (.return_, 1) := by decide +kernel
