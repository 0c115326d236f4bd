/-! decode rows -/
theorem d_Checker_init_0 : decode b_Checker_init 0 = .ok (.aload_n 0, 1) := by decide +kernel
theorem d_Checker_init_1 : decode b_Checker_init 1 = .ok (.invokespecial 3, 3) := by decide +kernel
theorem d_Checker_init_4 : decode b_Checker_init 4 = .ok (.aload_n 0, 1) := by decide +kernel
theorem d_Checker_init_5 : decode b_Checker_init 5 = .ok (.sipush 2720, 3) := by decide +kernel
theorem d_Checker_init_8 : decode b_Checker_init 8 = .ok (.newarray .boolean, 2) := by decide +kernel
theorem d_Checker_init_10 : decode b_Checker_init 10 = .ok (.putfield 9, 3) := by decide +kernel
theorem d_Checker_init_13 : decode b_Checker_init 13 = .ok (.aload_n 0, 1) := by decide +kernel
theorem d_Checker_init_14 : decode b_Checker_init 14 = .ok (.new 15, 3) := by decide +kernel
theorem d_Checker_init_17 : decode b_Checker_init 17 = .ok (.dup, 1) := by decide +kernel
theorem d_Checker_init_18 : decode b_Checker_init 18 = .ok (.invokespecial 17, 3) := by decide +kernel
theorem d_Checker_init_21 : decode b_Checker_init 21 = .ok (.putfield 18, 3) := by decide +kernel
theorem d_Checker_init_24 : decode b_Checker_init 24 = .ok (.aload_n 0, 1) := by decide +kernel
theorem d_Checker_init_25 : decode b_Checker_init 25 = .ok (.iconst 0, 1) := by decide +kernel
theorem d_Checker_init_26 : decode b_Checker_init 26 = .ok (.putfield 22, 3) := by decide +kernel
theorem d_Checker_init_29 : decode b_Checker_init 29 = .ok (.aload_n 0, 1) := by decide +kernel
theorem d_Checker_init_30 : decode b_Checker_init 30 = .ok (.iconst 0, 1) := by decide +kernel
theorem d_Checker_init_31 : decode b_Checker_init 31 = .ok (.putfield 26, 3) := by decide +kernel
theorem d_Checker_init_34 : decode b_Checker_init 34 = .ok (.aload_n 0, 1) := by decide +kernel
theorem d_Checker_init_35 : decode b_Checker_init 35 = .ok (.iconst 0, 1) := by decide +kernel
theorem d_Checker_init_36 : decode b_Checker_init 36 = .ok (.putfield 29, 3) := by decide +kernel
theorem d_Checker_init_39 : decode b_Checker_init 39 = .ok (.aload_n 0, 1) := by decide +kernel
theorem d_Checker_init_40 : decode b_Checker_init 40 = .ok (.aload_n 1, 1) := by decide +kernel
theorem d_Checker_init_41 : decode b_Checker_init 41 = .ok (.putfield 32, 3) := by decide +kernel
theorem d_Checker_init_44 : decode b_Checker_init 44 = .ok (.aload_n 0, 1) := by decide +kernel
theorem d_Checker_init_45 : decode b_Checker_init 45 = .ok (.aload_n 2, 1) := by decide +kernel
theorem d_Checker_init_46 : decode b_Checker_init 46 = .ok (.putfield 36, 3) := by decide +kernel
theorem d_Checker_init_49 : decode b_Checker_init 49 = .ok (.aload_n 0, 1) := by decide +kernel
theorem d_Checker_init_50 : decode b_Checker_init 50 = .ok (.aload_n 3, 1) := by decide +kernel
theorem d_Checker_init_51 : decode b_Checker_init 51 = .ok (.putfield 40, 3) := by decide +kernel
theorem d_Checker_init_54 : decode b_Checker_init 54 = .ok (.aload_n 0, 1) := by decide +kernel
theorem d_Checker_init_55 : decode b_Checker_init 55 = .ok (.aload 4, 2) := by decide +kernel
theorem d_Checker_init_57 : decode b_Checker_init 57 = .ok (.putfield 44, 3) := by decide +kernel
theorem d_Checker_init_60 : decode b_Checker_init 60 = .ok (.return_, 1) := by decide +kernel
theorem d_Checker_faults_0 : decode b_Checker_faults 0 = .ok (.aload_n 0, 1) := by decide +kernel
theorem d_Checker_faults_1 : decode b_Checker_faults 1 = .ok (.iconst 0, 1) := by decide +kernel
theorem d_Checker_faults_2 : decode b_Checker_faults 2 = .ok (.putfield 22, 3) := by decide +kernel
theorem d_Checker_faults_5 : decode b_Checker_faults 5 = .ok (.aload_n 0, 1) := by decide +kernel
theorem d_Checker_faults_6 : decode b_Checker_faults 6 = .ok (.iconst 0, 1) := by decide +kernel
theorem d_Checker_faults_7 : decode b_Checker_faults 7 = .ok (.putfield 29, 3) := by decide +kernel
theorem d_Checker_faults_10 : decode b_Checker_faults 10 = .ok (.iconst 0, 1) := by decide +kernel
theorem d_Checker_faults_11 : decode b_Checker_faults 11 = .ok (.istore_n 1, 1) := by decide +kernel
theorem d_Checker_faults_12 : decode b_Checker_faults 12 = .ok (.aload_n 0, 1) := by decide +kernel
theorem d_Checker_faults_13 : decode b_Checker_faults 13 = .ok (.invokevirtual 48, 3) := by decide +kernel
theorem d_Checker_faults_16 : decode b_Checker_faults 16 = .ok (.aload_n 0, 1) := by decide +kernel
theorem d_Checker_faults_17 : decode b_Checker_faults 17 = .ok (.aload_n 0, 1) := by decide +kernel
theorem d_Checker_faults_18 : decode b_Checker_faults 18 = .ok (.getfield 32, 3) := by decide +kernel
theorem d_Checker_faults_21 : decode b_Checker_faults 21 = .ok (.iconst 0, 1) := by decide +kernel
theorem d_Checker_faults_22 : decode b_Checker_faults 22 = .ok (.invokevirtual 51, 3) := by decide +kernel
theorem d_Checker_faults_25 : decode b_Checker_faults 25 = .ok (.aload_n 0, 1) := by decide +kernel
theorem d_Checker_faults_26 : decode b_Checker_faults 26 = .ok (.getfield 32, 3) := by decide +kernel
theorem d_Checker_faults_29 : decode b_Checker_faults 29 = .ok (.invokevirtual 57, 3) := by decide +kernel
theorem d_Checker_faults_32 : decode b_Checker_faults 32 = .ok (.if_icmp .ne 7, 3) := by decide +kernel
theorem d_Checker_faults_35 : decode b_Checker_faults 35 = .ok (.iconst 1, 1) := by decide +kernel
theorem d_Checker_faults_36 : decode b_Checker_faults 36 = .ok (.goto 4, 3) := by decide +kernel
theorem d_Checker_faults_39 : decode b_Checker_faults 39 = .ok (.iconst 0, 1) := by decide +kernel
theorem d_Checker_faults_40 : decode b_Checker_faults 40 = .ok (.invokevirtual 61, 3) := by decide +kernel
theorem d_Checker_faults_43 : decode b_Checker_faults 43 = .ok (.aload_n 0, 1) := by decide +kernel
theorem d_Checker_faults_44 : decode b_Checker_faults 44 = .ok (.invokevirtual 65, 3) := by decide +kernel
theorem d_Checker_faults_47 : decode b_Checker_faults 47 = .ok (.iconst 0, 1) := by decide +kernel
theorem d_Checker_faults_48 : decode b_Checker_faults 48 = .ok (.istore_n 2, 1) := by decide +kernel
theorem d_Checker_faults_49 : decode b_Checker_faults 49 = .ok (.iload_n 2, 1) := by decide +kernel
theorem d_Checker_faults_50 : decode b_Checker_faults 50 = .ok (.bipush 64, 2) := by decide +kernel
theorem d_Checker_faults_52 : decode b_Checker_faults 52 = .ok (.if_icmp .ge 82, 3) := by decide +kernel
theorem d_Checker_faults_55 : decode b_Checker_faults 55 = .ok (.aload_n 0, 1) := by decide +kernel
theorem d_Checker_faults_56 : decode b_Checker_faults 56 = .ok (.iconst 0, 1) := by decide +kernel
theorem d_Checker_faults_57 : decode b_Checker_faults 57 = .ok (.putfield 26, 3) := by decide +kernel
theorem d_Checker_faults_60 : decode b_Checker_faults 60 = .ok (.aload_n 0, 1) := by decide +kernel
theorem d_Checker_faults_61 : decode b_Checker_faults 61 = .ok (.getfield 18, 3) := by decide +kernel
theorem d_Checker_faults_64 : decode b_Checker_faults 64 = .ok (.invokevirtual 68, 3) := by decide +kernel
theorem d_Checker_faults_67 : decode b_Checker_faults 67 = .ok (.aload_n 0, 1) := by decide +kernel
theorem d_Checker_faults_68 : decode b_Checker_faults 68 = .ok (.getfield 44, 3) := by decide +kernel
theorem d_Checker_faults_71 : decode b_Checker_faults 71 = .ok (.iload_n 2, 1) := by decide +kernel
theorem d_Checker_faults_72 : decode b_Checker_faults 72 = .ok (.invokevirtual 71, 3) := by decide +kernel
theorem d_Checker_faults_75 : decode b_Checker_faults 75 = .ok (.ifCond .eq 29, 3) := by decide +kernel
theorem d_Checker_faults_78 : decode b_Checker_faults 78 = .ok (.aload_n 0, 1) := by decide +kernel
theorem d_Checker_faults_79 : decode b_Checker_faults 79 = .ok (.getfield 44, 3) := by decide +kernel
theorem d_Checker_faults_82 : decode b_Checker_faults 82 = .ok (.iload_n 2, 1) := by decide +kernel
theorem d_Checker_faults_83 : decode b_Checker_faults 83 = .ok (.invokevirtual 77, 3) := by decide +kernel
theorem d_Checker_faults_86 : decode b_Checker_faults 86 = .ok (.istore_n 3, 1) := by decide +kernel
theorem d_Checker_faults_87 : decode b_Checker_faults 87 = .ok (.aload_n 0, 1) := by decide +kernel
theorem d_Checker_faults_88 : decode b_Checker_faults 88 = .ok (.iload_n 2, 1) := by decide +kernel
theorem d_Checker_faults_89 : decode b_Checker_faults 89 = .ok (.iload_n 3, 1) := by decide +kernel
theorem d_Checker_faults_90 : decode b_Checker_faults 90 = .ok (.aload_n 0, 1) := by decide +kernel
theorem d_Checker_faults_91 : decode b_Checker_faults 91 = .ok (.getfield 36, 3) := by decide +kernel
theorem d_Checker_faults_94 : decode b_Checker_faults 94 = .ok (.iload_n 3, 1) := by decide +kernel
theorem d_Checker_faults_95 : decode b_Checker_faults 95 = .ok (.invokevirtual 80, 3) := by decide +kernel
theorem d_Checker_faults_98 : decode b_Checker_faults 98 = .ok (.invokevirtual 85, 3) := by decide +kernel
theorem d_Checker_faults_101 : decode b_Checker_faults 101 = .ok (.iinc 1 1, 3) := by decide +kernel
theorem d_Checker_faults_104 : decode b_Checker_faults 104 = .ok (.aload_n 0, 1) := by decide +kernel
theorem d_Checker_faults_105 : decode b_Checker_faults 105 = .ok (.aload_n 0, 1) := by decide +kernel
theorem d_Checker_faults_106 : decode b_Checker_faults 106 = .ok (.getfield 26, 3) := by decide +kernel
theorem d_Checker_faults_109 : decode b_Checker_faults 109 = .ok (.aload_n 0, 1) := by decide +kernel
theorem d_Checker_faults_110 : decode b_Checker_faults 110 = .ok (.getfield 44, 3) := by decide +kernel
theorem d_Checker_faults_113 : decode b_Checker_faults 113 = .ok (.iload_n 2, 1) := by decide +kernel
theorem d_Checker_faults_114 : decode b_Checker_faults 114 = .ok (.invokevirtual 89, 3) := by decide +kernel
theorem d_Checker_faults_117 : decode b_Checker_faults 117 = .ok (.if_icmp .ne 7, 3) := by decide +kernel
theorem d_Checker_faults_120 : decode b_Checker_faults 120 = .ok (.iconst 1, 1) := by decide +kernel
theorem d_Checker_faults_121 : decode b_Checker_faults 121 = .ok (.goto 4, 3) := by decide +kernel
theorem d_Checker_faults_124 : decode b_Checker_faults 124 = .ok (.iconst 0, 1) := by decide +kernel
theorem d_Checker_faults_125 : decode b_Checker_faults 125 = .ok (.invokevirtual 61, 3) := by decide +kernel
theorem d_Checker_faults_128 : decode b_Checker_faults 128 = .ok (.iinc 2 1, 3) := by decide +kernel
theorem d_Checker_faults_131 : decode b_Checker_faults 131 = .ok (.goto (-82), 3) := by decide +kernel
theorem d_Checker_faults_134 : decode b_Checker_faults 134 = .ok (.aload_n 0, 1) := by decide +kernel
theorem d_Checker_faults_135 : decode b_Checker_faults 135 = .ok (.iload_n 1, 1) := by decide +kernel
theorem d_Checker_faults_136 : decode b_Checker_faults 136 = .ok (.aload_n 0, 1) := by decide +kernel
theorem d_Checker_faults_137 : decode b_Checker_faults 137 = .ok (.getfield 32, 3) := by decide +kernel
theorem d_Checker_faults_140 : decode b_Checker_faults 140 = .ok (.bipush 6, 2) := by decide +kernel
theorem d_Checker_faults_142 : decode b_Checker_faults 142 = .ok (.invokevirtual 51, 3) := by decide +kernel
theorem d_Checker_faults_145 : decode b_Checker_faults 145 = .ok (.if_icmp .ne 7, 3) := by decide +kernel
theorem d_Checker_faults_148 : decode b_Checker_faults 148 = .ok (.iconst 1, 1) := by decide +kernel
theorem d_Checker_faults_149 : decode b_Checker_faults 149 = .ok (.goto 4, 3) := by decide +kernel
theorem d_Checker_faults_152 : decode b_Checker_faults 152 = .ok (.iconst 0, 1) := by decide +kernel
theorem d_Checker_faults_153 : decode b_Checker_faults 153 = .ok (.invokevirtual 61, 3) := by decide +kernel
theorem d_Checker_faults_156 : decode b_Checker_faults 156 = .ok (.aload_n 0, 1) := by decide +kernel
theorem d_Checker_faults_157 : decode b_Checker_faults 157 = .ok (.aload_n 0, 1) := by decide +kernel
theorem d_Checker_faults_158 : decode b_Checker_faults 158 = .ok (.getfield 29, 3) := by decide +kernel
theorem d_Checker_faults_161 : decode b_Checker_faults 161 = .ok (.aload_n 0, 1) := by decide +kernel
theorem d_Checker_faults_162 : decode b_Checker_faults 162 = .ok (.getfield 32, 3) := by decide +kernel
theorem d_Checker_faults_165 : decode b_Checker_faults 165 = .ok (.bipush 8, 2) := by decide +kernel
theorem d_Checker_faults_167 : decode b_Checker_faults 167 = .ok (.invokevirtual 51, 3) := by decide +kernel
theorem d_Checker_faults_170 : decode b_Checker_faults 170 = .ok (.if_icmp .ne 16, 3) := by decide +kernel
theorem d_Checker_faults_173 : decode b_Checker_faults 173 = .ok (.aload_n 0, 1) := by decide +kernel
theorem d_Checker_faults_174 : decode b_Checker_faults 174 = .ok (.getfield 29, 3) := by decide +kernel
theorem d_Checker_faults_177 : decode b_Checker_faults 177 = .ok (.ldc 91, 2) := by decide +kernel
theorem d_Checker_faults_179 : decode b_Checker_faults 179 = .ok (.if_icmp .gt 7, 3) := by decide +kernel
theorem d_Checker_faults_182 : decode b_Checker_faults 182 = .ok (.iconst 1, 1) := by decide +kernel
theorem d_Checker_faults_183 : decode b_Checker_faults 183 = .ok (.goto 4, 3) := by decide +kernel
theorem d_Checker_faults_186 : decode b_Checker_faults 186 = .ok (.iconst 0, 1) := by decide +kernel
theorem d_Checker_faults_187 : decode b_Checker_faults 187 = .ok (.invokevirtual 61, 3) := by decide +kernel
theorem d_Checker_faults_190 : decode b_Checker_faults 190 = .ok (.aload_n 0, 1) := by decide +kernel
theorem d_Checker_faults_191 : decode b_Checker_faults 191 = .ok (.invokevirtual 92, 3) := by decide +kernel
theorem d_Checker_faults_194 : decode b_Checker_faults 194 = .ok (.aload_n 0, 1) := by decide +kernel
theorem d_Checker_faults_195 : decode b_Checker_faults 195 = .ok (.getfield 22, 3) := by decide +kernel
theorem d_Checker_faults_198 : decode b_Checker_faults 198 = .ok (.ireturn, 1) := by decide +kernel
theorem d_Checker_expect_0 : decode b_Checker_expect 0 = .ok (.iload_n 1, 1) := by decide +kernel
theorem d_Checker_expect_1 : decode b_Checker_expect 1 = .ok (.ifCond .ne 13, 3) := by decide +kernel
theorem d_Checker_expect_4 : decode b_Checker_expect 4 = .ok (.aload_n 0, 1) := by decide +kernel
theorem d_Checker_expect_5 : decode b_Checker_expect 5 = .ok (.dup, 1) := by decide +kernel
theorem d_Checker_expect_6 : decode b_Checker_expect 6 = .ok (.getfield 22, 3) := by decide +kernel
theorem d_Checker_expect_9 : decode b_Checker_expect 9 = .ok (.iconst 1, 1) := by decide +kernel
theorem d_Checker_expect_10 : decode b_Checker_expect 10 = .ok (.iadd, 1) := by decide +kernel
theorem d_Checker_expect_11 : decode b_Checker_expect 11 = .ok (.putfield 22, 3) := by decide +kernel
theorem d_Checker_expect_14 : decode b_Checker_expect 14 = .ok (.return_, 1) := by decide +kernel
theorem d_Checker_forgetClaims_0 : decode b_Checker_forgetClaims 0 = .ok (.iconst 0, 1) := by decide +kernel
theorem d_Checker_forgetClaims_1 : decode b_Checker_forgetClaims 1 = .ok (.istore_n 1, 1) := by decide +kernel
theorem d_Checker_forgetClaims_2 : decode b_Checker_forgetClaims 2 = .ok (.iload_n 1, 1) := by decide +kernel
theorem d_Checker_forgetClaims_3 : decode b_Checker_forgetClaims 3 = .ok (.sipush 2720, 3) := by decide +kernel
theorem d_Checker_forgetClaims_6 : decode b_Checker_forgetClaims 6 = .ok (.if_icmp .ge 16, 3) := by decide +kernel
theorem d_Checker_forgetClaims_9 : decode b_Checker_forgetClaims 9 = .ok (.aload_n 0, 1) := by decide +kernel
theorem d_Checker_forgetClaims_10 : decode b_Checker_forgetClaims 10 = .ok (.getfield 9, 3) := by decide +kernel
theorem d_Checker_forgetClaims_13 : decode b_Checker_forgetClaims 13 = .ok (.iload_n 1, 1) := by decide +kernel
theorem d_Checker_forgetClaims_14 : decode b_Checker_forgetClaims 14 = .ok (.iconst 0, 1) := by decide +kernel
theorem d_Checker_forgetClaims_15 : decode b_Checker_forgetClaims 15 = .ok (.bastore, 1) := by decide +kernel
theorem d_Checker_forgetClaims_16 : decode b_Checker_forgetClaims 16 = .ok (.iinc 1 1, 3) := by decide +kernel
theorem d_Checker_forgetClaims_19 : decode b_Checker_forgetClaims 19 = .ok (.goto (-17), 3) := by decide +kernel
theorem d_Checker_forgetClaims_22 : decode b_Checker_forgetClaims 22 = .ok (.return_, 1) := by decide +kernel
theorem d_Checker_claim_0 : decode b_Checker_claim 0 = .ok (.iload_n 1, 1) := by decide +kernel
theorem d_Checker_claim_1 : decode b_Checker_claim 1 = .ok (.bipush 9, 2) := by decide +kernel
theorem d_Checker_claim_3 : decode b_Checker_claim 3 = .ok (.if_icmp .lt 30, 3) := by decide +kernel
theorem d_Checker_claim_6 : decode b_Checker_claim 6 = .ok (.iload_n 1, 1) := by decide +kernel
theorem d_Checker_claim_7 : decode b_Checker_claim 7 = .ok (.bipush 9, 2) := by decide +kernel
theorem d_Checker_claim_9 : decode b_Checker_claim 9 = .ok (.aload_n 0, 1) := by decide +kernel
theorem d_Checker_claim_10 : decode b_Checker_claim 10 = .ok (.getfield 32, 3) := by decide +kernel
theorem d_Checker_claim_13 : decode b_Checker_claim 13 = .ok (.invokevirtual 57, 3) := by decide +kernel
theorem d_Checker_claim_16 : decode b_Checker_claim 16 = .ok (.iadd, 1) := by decide +kernel
theorem d_Checker_claim_17 : decode b_Checker_claim 17 = .ok (.if_icmp .ge 16, 3) := by decide +kernel
theorem d_Checker_claim_20 : decode b_Checker_claim 20 = .ok (.aload_n 0, 1) := by decide +kernel
theorem d_Checker_claim_21 : decode b_Checker_claim 21 = .ok (.getfield 9, 3) := by decide +kernel
theorem d_Checker_claim_24 : decode b_Checker_claim 24 = .ok (.iload_n 1, 1) := by decide +kernel
theorem d_Checker_claim_25 : decode b_Checker_claim 25 = .ok (.baload, 1) := by decide +kernel
theorem d_Checker_claim_26 : decode b_Checker_claim 26 = .ok (.ifCond .ne 7, 3) := by decide +kernel
theorem d_Checker_claim_29 : decode b_Checker_claim 29 = .ok (.iconst 1, 1) := by decide +kernel
theorem d_Checker_claim_30 : decode b_Checker_claim 30 = .ok (.goto 4, 3) := by decide +kernel
theorem d_Checker_claim_33 : decode b_Checker_claim 33 = .ok (.iconst 0, 1) := by decide +kernel
theorem d_Checker_claim_34 : decode b_Checker_claim 34 = .ok (.istore_n 2, 1) := by decide +kernel
theorem d_Checker_claim_35 : decode b_Checker_claim 35 = .ok (.aload_n 0, 1) := by decide +kernel
theorem d_Checker_claim_36 : decode b_Checker_claim 36 = .ok (.iload_n 2, 1) := by decide +kernel
theorem d_Checker_claim_37 : decode b_Checker_claim 37 = .ok (.invokevirtual 61, 3) := by decide +kernel
theorem d_Checker_claim_40 : decode b_Checker_claim 40 = .ok (.iload_n 2, 1) := by decide +kernel
theorem d_Checker_claim_41 : decode b_Checker_claim 41 = .ok (.ifCond .eq 10, 3) := by decide +kernel
theorem d_Checker_claim_44 : decode b_Checker_claim 44 = .ok (.aload_n 0, 1) := by decide +kernel
theorem d_Checker_claim_45 : decode b_Checker_claim 45 = .ok (.getfield 9, 3) := by decide +kernel
theorem d_Checker_claim_48 : decode b_Checker_claim 48 = .ok (.iload_n 1, 1) := by decide +kernel
theorem d_Checker_claim_49 : decode b_Checker_claim 49 = .ok (.iconst 1, 1) := by decide +kernel
theorem d_Checker_claim_50 : decode b_Checker_claim 50 = .ok (.bastore, 1) := by decide +kernel
theorem d_Checker_claim_51 : decode b_Checker_claim 51 = .ok (.iload_n 2, 1) := by decide +kernel
theorem d_Checker_claim_52 : decode b_Checker_claim 52 = .ok (.ireturn, 1) := by decide +kernel
theorem d_Checker_expectAllClaimed_0 : decode b_Checker_expectAllClaimed 0 = .ok (.bipush 9, 2) := by decide +kernel
theorem d_Checker_expectAllClaimed_2 : decode b_Checker_expectAllClaimed 2 = .ok (.aload_n 0, 1) := by decide +kernel
theorem d_Checker_expectAllClaimed_3 : decode b_Checker_expectAllClaimed 3 = .ok (.getfield 32, 3) := by decide +kernel
theorem d_Checker_expectAllClaimed_6 : decode b_Checker_expectAllClaimed 6 = .ok (.invokevirtual 57, 3) := by decide +kernel
theorem d_Checker_expectAllClaimed_9 : decode b_Checker_expectAllClaimed 9 = .ok (.iadd, 1) := by decide +kernel
theorem d_Checker_expectAllClaimed_10 : decode b_Checker_expectAllClaimed 10 = .ok (.istore_n 1, 1) := by decide +kernel
theorem d_Checker_expectAllClaimed_11 : decode b_Checker_expectAllClaimed 11 = .ok (.bipush 9, 2) := by decide +kernel
theorem d_Checker_expectAllClaimed_13 : decode b_Checker_expectAllClaimed 13 = .ok (.istore_n 2, 1) := by decide +kernel
theorem d_Checker_expectAllClaimed_14 : decode b_Checker_expectAllClaimed 14 = .ok (.iload_n 2, 1) := by decide +kernel
theorem d_Checker_expectAllClaimed_15 : decode b_Checker_expectAllClaimed 15 = .ok (.iload_n 1, 1) := by decide +kernel
theorem d_Checker_expectAllClaimed_16 : decode b_Checker_expectAllClaimed 16 = .ok (.if_icmp .ge 19, 3) := by decide +kernel
theorem d_Checker_expectAllClaimed_19 : decode b_Checker_expectAllClaimed 19 = .ok (.aload_n 0, 1) := by decide +kernel
theorem d_Checker_expectAllClaimed_20 : decode b_Checker_expectAllClaimed 20 = .ok (.aload_n 0, 1) := by decide +kernel
theorem d_Checker_expectAllClaimed_21 : decode b_Checker_expectAllClaimed 21 = .ok (.getfield 9, 3) := by decide +kernel
theorem d_Checker_expectAllClaimed_24 : decode b_Checker_expectAllClaimed 24 = .ok (.iload_n 2, 1) := by decide +kernel
theorem d_Checker_expectAllClaimed_25 : decode b_Checker_expectAllClaimed 25 = .ok (.baload, 1) := by decide +kernel
theorem d_Checker_expectAllClaimed_26 : decode b_Checker_expectAllClaimed 26 = .ok (.invokevirtual 61, 3) := by decide +kernel
theorem d_Checker_expectAllClaimed_29 : decode b_Checker_expectAllClaimed 29 = .ok (.iinc 2 1, 3) := by decide +kernel
theorem d_Checker_expectAllClaimed_32 : decode b_Checker_expectAllClaimed 32 = .ok (.goto (-18), 3) := by decide +kernel
theorem d_Checker_expectAllClaimed_35 : decode b_Checker_expectAllClaimed 35 = .ok (.return_, 1) := by decide +kernel
theorem d_Checker_claimFree_0 : decode b_Checker_claimFree 0 = .ok (.aload_n 0, 1) := by decide +kernel
theorem d_Checker_claimFree_1 : decode b_Checker_claimFree 1 = .ok (.aload_n 0, 1) := by decide +kernel
theorem d_Checker_claimFree_2 : decode b_Checker_claimFree 2 = .ok (.aload_n 0, 1) := by decide +kernel
theorem d_Checker_claimFree_3 : decode b_Checker_claimFree 3 = .ok (.getfield 32, 3) := by decide +kernel
theorem d_Checker_claimFree_6 : decode b_Checker_claimFree 6 = .ok (.iconst 2, 1) := by decide +kernel
theorem d_Checker_claimFree_7 : decode b_Checker_claimFree 7 = .ok (.invokevirtual 51, 3) := by decide +kernel
theorem d_Checker_claimFree_10 : decode b_Checker_claimFree 10 = .ok (.invokevirtual 95, 3) := by decide +kernel
theorem d_Checker_claimFree_13 : decode b_Checker_claimFree 13 = .ok (.aload_n 0, 1) := by decide +kernel
theorem d_Checker_claimFree_14 : decode b_Checker_claimFree 14 = .ok (.getfield 32, 3) := by decide +kernel
theorem d_Checker_claimFree_17 : decode b_Checker_claimFree 17 = .ok (.iconst 4, 1) := by decide +kernel
theorem d_Checker_claimFree_18 : decode b_Checker_claimFree 18 = .ok (.invokevirtual 51, 3) := by decide +kernel
theorem d_Checker_claimFree_21 : decode b_Checker_claimFree 21 = .ok (.if_icmp .ne 7, 3) := by decide +kernel
theorem d_Checker_claimFree_24 : decode b_Checker_claimFree 24 = .ok (.iconst 1, 1) := by decide +kernel
theorem d_Checker_claimFree_25 : decode b_Checker_claimFree 25 = .ok (.goto 4, 3) := by decide +kernel
theorem d_Checker_claimFree_28 : decode b_Checker_claimFree 28 = .ok (.iconst 0, 1) := by decide +kernel
theorem d_Checker_claimFree_29 : decode b_Checker_claimFree 29 = .ok (.invokevirtual 61, 3) := by decide +kernel
theorem d_Checker_claimFree_32 : decode b_Checker_claimFree 32 = .ok (.return_, 1) := by decide +kernel
theorem d_Checker_claimChain_0 : decode b_Checker_claimChain 0 = .ok (.iload_n 1, 1) := by decide +kernel
theorem d_Checker_claimChain_1 : decode b_Checker_claimChain 1 = .ok (.istore_n 2, 1) := by decide +kernel
theorem d_Checker_claimChain_2 : decode b_Checker_claimChain 2 = .ok (.iconst 0, 1) := by decide +kernel
theorem d_Checker_claimChain_3 : decode b_Checker_claimChain 3 = .ok (.istore_n 3, 1) := by decide +kernel
theorem d_Checker_claimChain_4 : decode b_Checker_claimChain 4 = .ok (.iconst 0, 1) := by decide +kernel
theorem d_Checker_claimChain_5 : decode b_Checker_claimChain 5 = .ok (.istore 4, 2) := by decide +kernel
theorem d_Checker_claimChain_7 : decode b_Checker_claimChain 7 = .ok (.iload 4, 2) := by decide +kernel
theorem d_Checker_claimChain_9 : decode b_Checker_claimChain 9 = .ok (.sipush 2720, 3) := by decide +kernel
theorem d_Checker_claimChain_12 : decode b_Checker_claimChain 12 = .ok (.if_icmp .ge 38, 3) := by decide +kernel
theorem d_Checker_claimChain_15 : decode b_Checker_claimChain 15 = .ok (.iload_n 2, 1) := by decide +kernel
theorem d_Checker_claimChain_16 : decode b_Checker_claimChain 16 = .ok (.ifCond .eq 34, 3) := by decide +kernel
theorem d_Checker_claimChain_19 : decode b_Checker_claimChain 19 = .ok (.aload_n 0, 1) := by decide +kernel
theorem d_Checker_claimChain_20 : decode b_Checker_claimChain 20 = .ok (.iload_n 2, 1) := by decide +kernel
theorem d_Checker_claimChain_21 : decode b_Checker_claimChain 21 = .ok (.invokevirtual 98, 3) := by decide +kernel
theorem d_Checker_claimChain_24 : decode b_Checker_claimChain 24 = .ok (.ifCond .ne 5, 3) := by decide +kernel
theorem d_Checker_claimChain_27 : decode b_Checker_claimChain 27 = .ok (.iload_n 3, 1) := by decide +kernel
theorem d_Checker_claimChain_28 : decode b_Checker_claimChain 28 = .ok (.ireturn, 1) := by decide +kernel
theorem d_Checker_claimChain_29 : decode b_Checker_claimChain 29 = .ok (.iinc 3 1, 3) := by decide +kernel
theorem d_Checker_claimChain_32 : decode b_Checker_claimChain 32 = .ok (.aload_n 0, 1) := by decide +kernel
theorem d_Checker_claimChain_33 : decode b_Checker_claimChain 33 = .ok (.getfield 32, 3) := by decide +kernel
theorem d_Checker_claimChain_36 : decode b_Checker_claimChain 36 = .ok (.iload_n 2, 1) := by decide +kernel
theorem d_Checker_claimChain_37 : decode b_Checker_claimChain 37 = .ok (.bipush 32, 2) := by decide +kernel
theorem d_Checker_claimChain_39 : decode b_Checker_claimChain 39 = .ok (.imul, 1) := by decide +kernel
theorem d_Checker_claimChain_40 : decode b_Checker_claimChain 40 = .ok (.invokevirtual 51, 3) := by decide +kernel
theorem d_Checker_claimChain_43 : decode b_Checker_claimChain 43 = .ok (.istore_n 2, 1) := by decide +kernel
theorem d_Checker_claimChain_44 : decode b_Checker_claimChain 44 = .ok (.iinc 4 1, 3) := by decide +kernel
theorem d_Checker_claimChain_47 : decode b_Checker_claimChain 47 = .ok (.goto (-40), 3) := by decide +kernel
theorem d_Checker_claimChain_50 : decode b_Checker_claimChain 50 = .ok (.iload_n 3, 1) := by decide +kernel
theorem d_Checker_claimChain_51 : decode b_Checker_claimChain 51 = .ok (.ireturn, 1) := by decide +kernel
theorem d_Checker_walk_0 : decode b_Checker_walk 0 = .ok (.aload_n 0, 1) := by decide +kernel
theorem d_Checker_walk_1 : decode b_Checker_walk 1 = .ok (.iload_n 2, 1) := by decide +kernel
theorem d_Checker_walk_2 : decode b_Checker_walk 2 = .ok (.invokevirtual 98, 3) := by decide +kernel
theorem d_Checker_walk_5 : decode b_Checker_walk 5 = .ok (.ifCond .ne 4, 3) := by decide +kernel
theorem d_Checker_walk_8 : decode b_Checker_walk 8 = .ok (.return_, 1) := by decide +kernel
theorem d_Checker_walk_9 : decode b_Checker_walk 9 = .ok (.iload_n 2, 1) := by decide +kernel
theorem d_Checker_walk_10 : decode b_Checker_walk 10 = .ok (.aload_n 0, 1) := by decide +kernel
theorem d_Checker_walk_11 : decode b_Checker_walk 11 = .ok (.getfield 44, 3) := by decide +kernel
theorem d_Checker_walk_14 : decode b_Checker_walk 14 = .ok (.iload_n 1, 1) := by decide +kernel
theorem d_Checker_walk_15 : decode b_Checker_walk 15 = .ok (.invokevirtual 77, 3) := by decide +kernel
theorem d_Checker_walk_18 : decode b_Checker_walk 18 = .ok (.if_icmp .ne 7, 3) := by decide +kernel
theorem d_Checker_walk_21 : decode b_Checker_walk 21 = .ok (.iconst 1, 1) := by decide +kernel
theorem d_Checker_walk_22 : decode b_Checker_walk 22 = .ok (.goto 4, 3) := by decide +kernel
theorem d_Checker_walk_25 : decode b_Checker_walk 25 = .ok (.iconst 0, 1) := by decide +kernel
theorem d_Checker_walk_26 : decode b_Checker_walk 26 = .ok (.istore 4, 2) := by decide +kernel
theorem d_Checker_walk_28 : decode b_Checker_walk 28 = .ok (.aload_n 0, 1) := by decide +kernel
theorem d_Checker_walk_29 : decode b_Checker_walk 29 = .ok (.getfield 36, 3) := by decide +kernel
theorem d_Checker_walk_32 : decode b_Checker_walk 32 = .ok (.iload_n 2, 1) := by decide +kernel
theorem d_Checker_walk_33 : decode b_Checker_walk 33 = .ok (.invokevirtual 101, 3) := by decide +kernel
theorem d_Checker_walk_36 : decode b_Checker_walk 36 = .ok (.istore 5, 2) := by decide +kernel
theorem d_Checker_walk_38 : decode b_Checker_walk 38 = .ok (.aload_n 0, 1) := by decide +kernel
theorem d_Checker_walk_39 : decode b_Checker_walk 39 = .ok (.aload_n 0, 1) := by decide +kernel
theorem d_Checker_walk_40 : decode b_Checker_walk 40 = .ok (.getfield 32, 3) := by decide +kernel
theorem d_Checker_walk_43 : decode b_Checker_walk 43 = .ok (.iload_n 2, 1) := by decide +kernel
theorem d_Checker_walk_44 : decode b_Checker_walk 44 = .ok (.bipush 32, 2) := by decide +kernel
theorem d_Checker_walk_46 : decode b_Checker_walk 46 = .ok (.imul, 1) := by decide +kernel
theorem d_Checker_walk_47 : decode b_Checker_walk 47 = .ok (.iconst 2, 1) := by decide +kernel
theorem d_Checker_walk_48 : decode b_Checker_walk 48 = .ok (.iadd, 1) := by decide +kernel
theorem d_Checker_walk_49 : decode b_Checker_walk 49 = .ok (.invokevirtual 51, 3) := by decide +kernel
theorem d_Checker_walk_52 : decode b_Checker_walk 52 = .ok (.iload 5, 2) := by decide +kernel
theorem d_Checker_walk_54 : decode b_Checker_walk 54 = .ok (.if_icmp .ne 7, 3) := by decide +kernel
theorem d_Checker_walk_57 : decode b_Checker_walk 57 = .ok (.iconst 1, 1) := by decide +kernel
theorem d_Checker_walk_58 : decode b_Checker_walk 58 = .ok (.goto 4, 3) := by decide +kernel
theorem d_Checker_walk_61 : decode b_Checker_walk 61 = .ok (.iconst 0, 1) := by decide +kernel
theorem d_Checker_walk_62 : decode b_Checker_walk 62 = .ok (.invokevirtual 61, 3) := by decide +kernel
theorem d_Checker_walk_65 : decode b_Checker_walk 65 = .ok (.aload_n 0, 1) := by decide +kernel
theorem d_Checker_walk_66 : decode b_Checker_walk 66 = .ok (.aload_n 0, 1) := by decide +kernel
theorem d_Checker_walk_67 : decode b_Checker_walk 67 = .ok (.getfield 32, 3) := by decide +kernel
theorem d_Checker_walk_70 : decode b_Checker_walk 70 = .ok (.iload_n 2, 1) := by decide +kernel
theorem d_Checker_walk_71 : decode b_Checker_walk 71 = .ok (.bipush 32, 2) := by decide +kernel
theorem d_Checker_walk_73 : decode b_Checker_walk 73 = .ok (.imul, 1) := by decide +kernel
theorem d_Checker_walk_74 : decode b_Checker_walk 74 = .ok (.iconst 0, 1) := by decide +kernel
theorem d_Checker_walk_75 : decode b_Checker_walk 75 = .ok (.iadd, 1) := by decide +kernel
theorem d_Checker_walk_76 : decode b_Checker_walk 76 = .ok (.invokevirtual 51, 3) := by decide +kernel
theorem d_Checker_walk_79 : decode b_Checker_walk 79 = .ok (.iload_n 3, 1) := by decide +kernel
theorem d_Checker_walk_80 : decode b_Checker_walk 80 = .ok (.if_icmp .ne 7, 3) := by decide +kernel
theorem d_Checker_walk_83 : decode b_Checker_walk 83 = .ok (.iconst 1, 1) := by decide +kernel
theorem d_Checker_walk_84 : decode b_Checker_walk 84 = .ok (.goto 4, 3) := by decide +kernel
theorem d_Checker_walk_87 : decode b_Checker_walk 87 = .ok (.iconst 0, 1) := by decide +kernel
theorem d_Checker_walk_88 : decode b_Checker_walk 88 = .ok (.invokevirtual 61, 3) := by decide +kernel
theorem d_Checker_walk_91 : decode b_Checker_walk 91 = .ok (.aload_n 0, 1) := by decide +kernel
theorem d_Checker_walk_92 : decode b_Checker_walk 92 = .ok (.iload 4, 2) := by decide +kernel
theorem d_Checker_walk_94 : decode b_Checker_walk 94 = .ok (.ifCond .eq 21, 3) := by decide +kernel
theorem d_Checker_walk_97 : decode b_Checker_walk 97 = .ok (.iload_n 3, 1) := by decide +kernel
theorem d_Checker_walk_98 : decode b_Checker_walk 98 = .ok (.ifCond .eq 9, 3) := by decide +kernel
theorem d_Checker_walk_101 : decode b_Checker_walk 101 = .ok (.iload 5, 2) := by decide +kernel
theorem d_Checker_walk_103 : decode b_Checker_walk 103 = .ok (.iconst 1, 1) := by decide +kernel
theorem d_Checker_walk_104 : decode b_Checker_walk 104 = .ok (.if_icmp .le 7, 3) := by decide +kernel
theorem d_Checker_walk_107 : decode b_Checker_walk 107 = .ok (.iconst 1, 1) := by decide +kernel
theorem d_Checker_walk_108 : decode b_Checker_walk 108 = .ok (.goto 23, 3) := by decide +kernel
theorem d_Checker_walk_111 : decode b_Checker_walk 111 = .ok (.iconst 0, 1) := by decide +kernel
theorem d_Checker_walk_112 : decode b_Checker_walk 112 = .ok (.goto 19, 3) := by decide +kernel
theorem d_Checker_walk_115 : decode b_Checker_walk 115 = .ok (.aload_n 0, 1) := by decide +kernel
theorem d_Checker_walk_116 : decode b_Checker_walk 116 = .ok (.getfield 36, 3) := by decide +kernel
theorem d_Checker_walk_119 : decode b_Checker_walk 119 = .ok (.iload_n 2, 1) := by decide +kernel
theorem d_Checker_walk_120 : decode b_Checker_walk 120 = .ok (.invokevirtual 104, 3) := by decide +kernel
theorem d_Checker_walk_123 : decode b_Checker_walk 123 = .ok (.ifCond .ne 7, 3) := by decide +kernel
theorem d_Checker_walk_126 : decode b_Checker_walk 126 = .ok (.iconst 1, 1) := by decide +kernel
theorem d_Checker_walk_127 : decode b_Checker_walk 127 = .ok (.goto 4, 3) := by decide +kernel
theorem d_Checker_walk_130 : decode b_Checker_walk 130 = .ok (.iconst 0, 1) := by decide +kernel
theorem d_Checker_walk_131 : decode b_Checker_walk 131 = .ok (.invokevirtual 61, 3) := by decide +kernel
theorem d_Checker_walk_134 : decode b_Checker_walk 134 = .ok (.iconst 0, 1) := by decide +kernel
theorem d_Checker_walk_135 : decode b_Checker_walk 135 = .ok (.istore 6, 2) := by decide +kernel
theorem d_Checker_walk_137 : decode b_Checker_walk 137 = .ok (.iload 6, 2) := by decide +kernel
theorem d_Checker_walk_139 : decode b_Checker_walk 139 = .ok (.iload 5, 2) := by decide +kernel
theorem d_Checker_walk_141 : decode b_Checker_walk 141 = .ok (.if_icmp .ge 42, 3) := by decide +kernel
theorem d_Checker_walk_144 : decode b_Checker_walk 144 = .ok (.iload_n 3, 1) := by decide +kernel
theorem d_Checker_walk_145 : decode b_Checker_walk 145 = .ok (.ifCond .le 24, 3) := by decide +kernel
theorem d_Checker_walk_148 : decode b_Checker_walk 148 = .ok (.aload_n 0, 1) := by decide +kernel
theorem d_Checker_walk_149 : decode b_Checker_walk 149 = .ok (.iload_n 1, 1) := by decide +kernel
theorem d_Checker_walk_150 : decode b_Checker_walk 150 = .ok (.aload_n 0, 1) := by decide +kernel
theorem d_Checker_walk_151 : decode b_Checker_walk 151 = .ok (.getfield 36, 3) := by decide +kernel
theorem d_Checker_walk_154 : decode b_Checker_walk 154 = .ok (.iload_n 2, 1) := by decide +kernel
theorem d_Checker_walk_155 : decode b_Checker_walk 155 = .ok (.iload 6, 2) := by decide +kernel
theorem d_Checker_walk_157 : decode b_Checker_walk 157 = .ok (.invokevirtual 107, 3) := by decide +kernel
theorem d_Checker_walk_160 : decode b_Checker_walk 160 = .ok (.iload_n 3, 1) := by decide +kernel
theorem d_Checker_walk_161 : decode b_Checker_walk 161 = .ok (.iconst 1, 1) := by decide +kernel
theorem d_Checker_walk_162 : decode b_Checker_walk 162 = .ok (.isub, 1) := by decide +kernel
theorem d_Checker_walk_163 : decode b_Checker_walk 163 = .ok (.invokevirtual 85, 3) := by decide +kernel
theorem d_Checker_walk_166 : decode b_Checker_walk 166 = .ok (.goto 11, 3) := by decide +kernel
theorem d_Checker_walk_169 : decode b_Checker_walk 169 = .ok (.aload_n 0, 1) := by decide +kernel
theorem d_Checker_walk_170 : decode b_Checker_walk 170 = .ok (.iload_n 1, 1) := by decide +kernel
theorem d_Checker_walk_171 : decode b_Checker_walk 171 = .ok (.iload_n 2, 1) := by decide +kernel
theorem d_Checker_walk_172 : decode b_Checker_walk 172 = .ok (.iload 6, 2) := by decide +kernel
theorem d_Checker_walk_174 : decode b_Checker_walk 174 = .ok (.invokevirtual 111, 3) := by decide +kernel
theorem d_Checker_walk_177 : decode b_Checker_walk 177 = .ok (.iinc 6 1, 3) := by decide +kernel
theorem d_Checker_walk_180 : decode b_Checker_walk 180 = .ok (.goto (-43), 3) := by decide +kernel
theorem d_Checker_walk_183 : decode b_Checker_walk 183 = .ok (.return_, 1) := by decide +kernel
theorem d_Checker_examine_0 : decode b_Checker_examine 0 = .ok (.aload_n 0, 1) := by decide +kernel
theorem d_Checker_examine_1 : decode b_Checker_examine 1 = .ok (.getfield 36, 3) := by decide +kernel
theorem d_Checker_examine_4 : decode b_Checker_examine 4 = .ok (.iload_n 2, 1) := by decide +kernel
theorem d_Checker_examine_5 : decode b_Checker_examine 5 = .ok (.iload_n 3, 1) := by decide +kernel
theorem d_Checker_examine_6 : decode b_Checker_examine 6 = .ok (.invokevirtual 107, 3) := by decide +kernel
theorem d_Checker_examine_9 : decode b_Checker_examine 9 = .ok (.istore 4, 2) := by decide +kernel
theorem d_Checker_examine_11 : decode b_Checker_examine 11 = .ok (.aload_n 0, 1) := by decide +kernel
theorem d_Checker_examine_12 : decode b_Checker_examine 12 = .ok (.getfield 40, 3) := by decide +kernel
theorem d_Checker_examine_15 : decode b_Checker_examine 15 = .ok (.iload 4, 2) := by decide +kernel
theorem d_Checker_examine_17 : decode b_Checker_examine 17 = .ok (.invokevirtual 114, 3) := by decide +kernel
theorem d_Checker_examine_20 : decode b_Checker_examine 20 = .ok (.istore 5, 2) := by decide +kernel
theorem d_Checker_examine_22 : decode b_Checker_examine 22 = .ok (.aload_n 0, 1) := by decide +kernel
theorem d_Checker_examine_23 : decode b_Checker_examine 23 = .ok (.iload 5, 2) := by decide +kernel
theorem d_Checker_examine_25 : decode b_Checker_examine 25 = .ok (.iconst 1, 1) := by decide +kernel
theorem d_Checker_examine_26 : decode b_Checker_examine 26 = .ok (.if_icmp .lt 30, 3) := by decide +kernel
theorem d_Checker_examine_29 : decode b_Checker_examine 29 = .ok (.iload 5, 2) := by decide +kernel
theorem d_Checker_examine_31 : decode b_Checker_examine 31 = .ok (.sipush 8448, 3) := by decide +kernel
theorem d_Checker_examine_34 : decode b_Checker_examine 34 = .ok (.if_icmp .gt 22, 3) := by decide +kernel
theorem d_Checker_examine_37 : decode b_Checker_examine 37 = .ok (.aload_n 0, 1) := by decide +kernel
theorem d_Checker_examine_38 : decode b_Checker_examine 38 = .ok (.getfield 40, 3) := by decide +kernel
theorem d_Checker_examine_41 : decode b_Checker_examine 41 = .ok (.iload 4, 2) := by decide +kernel
theorem d_Checker_examine_43 : decode b_Checker_examine 43 = .ok (.invokevirtual 119, 3) := by decide +kernel
theorem d_Checker_examine_46 : decode b_Checker_examine 46 = .ok (.sipush 8448, 3) := by decide +kernel
theorem d_Checker_examine_49 : decode b_Checker_examine 49 = .ok (.if_icmp .gt 7, 3) := by decide +kernel
theorem d_Checker_examine_52 : decode b_Checker_examine 52 = .ok (.iconst 1, 1) := by decide +kernel
theorem d_Checker_examine_53 : decode b_Checker_examine 53 = .ok (.goto 4, 3) := by decide +kernel
theorem d_Checker_examine_56 : decode b_Checker_examine 56 = .ok (.iconst 0, 1) := by decide +kernel
theorem d_Checker_examine_57 : decode b_Checker_examine 57 = .ok (.invokevirtual 61, 3) := by decide +kernel
theorem d_Checker_examine_60 : decode b_Checker_examine 60 = .ok (.aload_n 0, 1) := by decide +kernel
theorem d_Checker_examine_61 : decode b_Checker_examine 61 = .ok (.aload_n 0, 1) := by decide +kernel
theorem d_Checker_examine_62 : decode b_Checker_examine 62 = .ok (.iload 4, 2) := by decide +kernel
theorem d_Checker_examine_64 : decode b_Checker_examine 64 = .ok (.invokevirtual 95, 3) := by decide +kernel
theorem d_Checker_examine_67 : decode b_Checker_examine 67 = .ok (.aload_n 0, 1) := by decide +kernel
theorem d_Checker_examine_68 : decode b_Checker_examine 68 = .ok (.getfield 40, 3) := by decide +kernel
theorem d_Checker_examine_71 : decode b_Checker_examine 71 = .ok (.iload 4, 2) := by decide +kernel
theorem d_Checker_examine_73 : decode b_Checker_examine 73 = .ok (.invokevirtual 122, 3) := by decide +kernel
theorem d_Checker_examine_76 : decode b_Checker_examine 76 = .ok (.if_icmp .ne 7, 3) := by decide +kernel
theorem d_Checker_examine_79 : decode b_Checker_examine 79 = .ok (.iconst 1, 1) := by decide +kernel
theorem d_Checker_examine_80 : decode b_Checker_examine 80 = .ok (.goto 4, 3) := by decide +kernel
theorem d_Checker_examine_83 : decode b_Checker_examine 83 = .ok (.iconst 0, 1) := by decide +kernel
theorem d_Checker_examine_84 : decode b_Checker_examine 84 = .ok (.invokevirtual 61, 3) := by decide +kernel
theorem d_Checker_examine_87 : decode b_Checker_examine 87 = .ok (.aload_n 0, 1) := by decide +kernel
theorem d_Checker_examine_88 : decode b_Checker_examine 88 = .ok (.aload_n 0, 1) := by decide +kernel
theorem d_Checker_examine_89 : decode b_Checker_examine 89 = .ok (.getfield 40, 3) := by decide +kernel
theorem d_Checker_examine_92 : decode b_Checker_examine 92 = .ok (.aload_n 0, 1) := by decide +kernel
theorem d_Checker_examine_93 : decode b_Checker_examine 93 = .ok (.getfield 18, 3) := by decide +kernel
theorem d_Checker_examine_96 : decode b_Checker_examine 96 = .ok (.iload 4, 2) := by decide +kernel
theorem d_Checker_examine_98 : decode b_Checker_examine 98 = .ok (.invokevirtual 125, 3) := by decide +kernel
theorem d_Checker_examine_101 : decode b_Checker_examine 101 = .ok (.ifCond .ge 7, 3) := by decide +kernel
theorem d_Checker_examine_104 : decode b_Checker_examine 104 = .ok (.iconst 1, 1) := by decide +kernel
theorem d_Checker_examine_105 : decode b_Checker_examine 105 = .ok (.goto 4, 3) := by decide +kernel
theorem d_Checker_examine_108 : decode b_Checker_examine 108 = .ok (.iconst 0, 1) := by decide +kernel
theorem d_Checker_examine_109 : decode b_Checker_examine 109 = .ok (.invokevirtual 61, 3) := by decide +kernel
theorem d_Checker_examine_112 : decode b_Checker_examine 112 = .ok (.aload_n 0, 1) := by decide +kernel
theorem d_Checker_examine_113 : decode b_Checker_examine 113 = .ok (.getfield 40, 3) := by decide +kernel
theorem d_Checker_examine_116 : decode b_Checker_examine 116 = .ok (.iload 4, 2) := by decide +kernel
theorem d_Checker_examine_118 : decode b_Checker_examine 118 = .ok (.aload_n 0, 1) := by decide +kernel
theorem d_Checker_examine_119 : decode b_Checker_examine 119 = .ok (.getfield 18, 3) := by decide +kernel
theorem d_Checker_examine_122 : decode b_Checker_examine 122 = .ok (.invokevirtual 129, 3) := by decide +kernel
theorem d_Checker_examine_125 : decode b_Checker_examine 125 = .ok (.aload_n 0, 1) := by decide +kernel
theorem d_Checker_examine_126 : decode b_Checker_examine 126 = .ok (.getfield 44, 3) := by decide +kernel
theorem d_Checker_examine_129 : decode b_Checker_examine 129 = .ok (.iload_n 1, 1) := by decide +kernel
theorem d_Checker_examine_130 : decode b_Checker_examine 130 = .ok (.aload_n 0, 1) := by decide +kernel
theorem d_Checker_examine_131 : decode b_Checker_examine 131 = .ok (.getfield 18, 3) := by decide +kernel
theorem d_Checker_examine_134 : decode b_Checker_examine 134 = .ok (.invokevirtual 133, 3) := by decide +kernel
theorem d_Checker_examine_137 : decode b_Checker_examine 137 = .ok (.aload_n 0, 1) := by decide +kernel
theorem d_Checker_examine_138 : decode b_Checker_examine 138 = .ok (.aload_n 0, 1) := by decide +kernel
theorem d_Checker_examine_139 : decode b_Checker_examine 139 = .ok (.getfield 44, 3) := by decide +kernel
theorem d_Checker_examine_142 : decode b_Checker_examine 142 = .ok (.iload_n 2, 1) := by decide +kernel
theorem d_Checker_examine_143 : decode b_Checker_examine 143 = .ok (.iload_n 3, 1) := by decide +kernel
theorem d_Checker_examine_144 : decode b_Checker_examine 144 = .ok (.invokevirtual 136, 3) := by decide +kernel
theorem d_Checker_examine_147 : decode b_Checker_examine 147 = .ok (.invokevirtual 61, 3) := by decide +kernel
theorem d_Checker_examine_150 : decode b_Checker_examine 150 = .ok (.aload_n 0, 1) := by decide +kernel
theorem d_Checker_examine_151 : decode b_Checker_examine 151 = .ok (.dup, 1) := by decide +kernel
theorem d_Checker_examine_152 : decode b_Checker_examine 152 = .ok (.getfield 26, 3) := by decide +kernel
theorem d_Checker_examine_155 : decode b_Checker_examine 155 = .ok (.iconst 1, 1) := by decide +kernel
theorem d_Checker_examine_156 : decode b_Checker_examine 156 = .ok (.iadd, 1) := by decide +kernel
theorem d_Checker_examine_157 : decode b_Checker_examine 157 = .ok (.putfield 26, 3) := by decide +kernel
theorem d_Checker_examine_160 : decode b_Checker_examine 160 = .ok (.aload_n 0, 1) := by decide +kernel
theorem d_Checker_examine_161 : decode b_Checker_examine 161 = .ok (.dup, 1) := by decide +kernel
theorem d_Checker_examine_162 : decode b_Checker_examine 162 = .ok (.getfield 29, 3) := by decide +kernel
theorem d_Checker_examine_165 : decode b_Checker_examine 165 = .ok (.aload_n 0, 1) := by decide +kernel
theorem d_Checker_examine_166 : decode b_Checker_examine 166 = .ok (.getfield 40, 3) := by decide +kernel
theorem d_Checker_examine_169 : decode b_Checker_examine 169 = .ok (.iload 4, 2) := by decide +kernel
theorem d_Checker_examine_171 : decode b_Checker_examine 171 = .ok (.invokevirtual 140, 3) := by decide +kernel
theorem d_Checker_examine_174 : decode b_Checker_examine 174 = .ok (.iadd, 1) := by decide +kernel
theorem d_Checker_examine_175 : decode b_Checker_examine 175 = .ok (.putfield 29, 3) := by decide +kernel
theorem d_Checker_examine_178 : decode b_Checker_examine 178 = .ok (.return_, 1) := by decide +kernel
theorem d_Disk_init_0 : decode b_Disk_init 0 = .ok (.aload_n 0, 1) := by decide +kernel
theorem d_Disk_init_1 : decode b_Disk_init 1 = .ok (.invokespecial 3, 3) := by decide +kernel
theorem d_Disk_init_4 : decode b_Disk_init 4 = .ok (.aload_n 0, 1) := by decide +kernel
theorem d_Disk_init_5 : decode b_Disk_init 5 = .ok (.ldc 9, 2) := by decide +kernel
theorem d_Disk_init_7 : decode b_Disk_init 7 = .ok (.newarray .byte, 2) := by decide +kernel
theorem d_Disk_init_9 : decode b_Disk_init 9 = .ok (.putfield 10, 3) := by decide +kernel
theorem d_Disk_init_12 : decode b_Disk_init 12 = .ok (.aload_n 0, 1) := by decide +kernel
theorem d_Disk_init_13 : decode b_Disk_init 13 = .ok (.ldc 16, 2) := by decide +kernel
theorem d_Disk_init_15 : decode b_Disk_init 15 = .ok (.newarray .byte, 2) := by decide +kernel
theorem d_Disk_init_17 : decode b_Disk_init 17 = .ok (.putfield 17, 3) := by decide +kernel
theorem d_Disk_init_20 : decode b_Disk_init 20 = .ok (.aload_n 0, 1) := by decide +kernel
theorem d_Disk_init_21 : decode b_Disk_init 21 = .ok (.bipush 34, 2) := by decide +kernel
theorem d_Disk_init_23 : decode b_Disk_init 23 = .ok (.newarray .byte, 2) := by decide +kernel
theorem d_Disk_init_25 : decode b_Disk_init 25 = .ok (.putfield 20, 3) := by decide +kernel
theorem d_Disk_init_28 : decode b_Disk_init 28 = .ok (.aload_n 0, 1) := by decide +kernel
theorem d_Disk_init_29 : decode b_Disk_init 29 = .ok (.iconst 0, 1) := by decide +kernel
theorem d_Disk_init_30 : decode b_Disk_init 30 = .ok (.putfield 23, 3) := by decide +kernel
theorem d_Disk_init_33 : decode b_Disk_init 33 = .ok (.aload_n 0, 1) := by decide +kernel
theorem d_Disk_init_34 : decode b_Disk_init 34 = .ok (.iconst 4, 1) := by decide +kernel
theorem d_Disk_init_35 : decode b_Disk_init 35 = .ok (.putfield 27, 3) := by decide +kernel
theorem d_Disk_init_38 : decode b_Disk_init 38 = .ok (.aload_n 0, 1) := by decide +kernel
theorem d_Disk_init_39 : decode b_Disk_init 39 = .ok (.iconst 0, 1) := by decide +kernel
theorem d_Disk_init_40 : decode b_Disk_init 40 = .ok (.putfield 30, 3) := by decide +kernel
theorem d_Disk_init_43 : decode b_Disk_init 43 = .ok (.aload_n 0, 1) := by decide +kernel
theorem d_Disk_init_44 : decode b_Disk_init 44 = .ok (.iconst 0, 1) := by decide +kernel
theorem d_Disk_init_45 : decode b_Disk_init 45 = .ok (.putfield 33, 3) := by decide +kernel
theorem d_Disk_init_48 : decode b_Disk_init 48 = .ok (.return_, 1) := by decide +kernel
theorem d_Disk_plan_0 : decode b_Disk_plan 0 = .ok (.aload_n 0, 1) := by decide +kernel
theorem d_Disk_plan_1 : decode b_Disk_plan 1 = .ok (.iload_n 1, 1) := by decide +kernel
theorem d_Disk_plan_2 : decode b_Disk_plan 2 = .ok (.putfield 27, 3) := by decide +kernel
theorem d_Disk_plan_5 : decode b_Disk_plan 5 = .ok (.aload_n 0, 1) := by decide +kernel
theorem d_Disk_plan_6 : decode b_Disk_plan 6 = .ok (.iload_n 2, 1) := by decide +kernel
theorem d_Disk_plan_7 : decode b_Disk_plan 7 = .ok (.putfield 30, 3) := by decide +kernel
theorem d_Disk_plan_10 : decode b_Disk_plan 10 = .ok (.aload_n 0, 1) := by decide +kernel
theorem d_Disk_plan_11 : decode b_Disk_plan 11 = .ok (.iload_n 3, 1) := by decide +kernel
theorem d_Disk_plan_12 : decode b_Disk_plan 12 = .ok (.putfield 33, 3) := by decide +kernel
theorem d_Disk_plan_15 : decode b_Disk_plan 15 = .ok (.return_, 1) := by decide +kernel
theorem d_Disk_save_0 : decode b_Disk_save 0 = .ok (.aload_n 0, 1) := by decide +kernel
theorem d_Disk_save_1 : decode b_Disk_save 1 = .ok (.aload_n 1, 1) := by decide +kernel
theorem d_Disk_save_2 : decode b_Disk_save 2 = .ok (.invokevirtual 36, 3) := by decide +kernel
theorem d_Disk_save_5 : decode b_Disk_save 5 = .ok (.ifCond .eq 22, 3) := by decide +kernel
theorem d_Disk_save_8 : decode b_Disk_save 8 = .ok (.aload_n 0, 1) := by decide +kernel
theorem d_Disk_save_9 : decode b_Disk_save 9 = .ok (.aload_n 1, 1) := by decide +kernel
theorem d_Disk_save_10 : decode b_Disk_save 10 = .ok (.invokevirtual 40, 3) := by decide +kernel
theorem d_Disk_save_13 : decode b_Disk_save 13 = .ok (.ifCond .eq 14, 3) := by decide +kernel
theorem d_Disk_save_16 : decode b_Disk_save 16 = .ok (.aload_n 0, 1) := by decide +kernel
theorem d_Disk_save_17 : decode b_Disk_save 17 = .ok (.invokevirtual 43, 3) := by decide +kernel
theorem d_Disk_save_20 : decode b_Disk_save 20 = .ok (.ifCond .eq 7, 3) := by decide +kernel
theorem d_Disk_save_23 : decode b_Disk_save 23 = .ok (.iconst 1, 1) := by decide +kernel
theorem d_Disk_save_24 : decode b_Disk_save 24 = .ok (.goto 4, 3) := by decide +kernel
theorem d_Disk_save_27 : decode b_Disk_save 27 = .ok (.iconst 0, 1) := by decide +kernel
theorem d_Disk_save_28 : decode b_Disk_save 28 = .ok (.ireturn, 1) := by decide +kernel
theorem d_Disk_recover_0 : decode b_Disk_recover 0 = .ok (.iconst 1, 1) := by decide +kernel
theorem d_Disk_recover_1 : decode b_Disk_recover 1 = .ok (.istore_n 1, 1) := by decide +kernel
theorem d_Disk_recover_2 : decode b_Disk_recover 2 = .ok (.aload_n 0, 1) := by decide +kernel
theorem d_Disk_recover_3 : decode b_Disk_recover 3 = .ok (.getfield 23, 3) := by decide +kernel
theorem d_Disk_recover_6 : decode b_Disk_recover 6 = .ok (.bipush 34, 2) := by decide +kernel
theorem d_Disk_recover_8 : decode b_Disk_recover 8 = .ok (.idiv, 1) := by decide +kernel
theorem d_Disk_recover_9 : decode b_Disk_recover 9 = .ok (.istore_n 2, 1) := by decide +kernel
theorem d_Disk_recover_10 : decode b_Disk_recover 10 = .ok (.iconst 0, 1) := by decide +kernel
theorem d_Disk_recover_11 : decode b_Disk_recover 11 = .ok (.istore_n 3, 1) := by decide +kernel
theorem d_Disk_recover_12 : decode b_Disk_recover 12 = .ok (.iload_n 3, 1) := by decide +kernel
theorem d_Disk_recover_13 : decode b_Disk_recover 13 = .ok (.iload_n 2, 1) := by decide +kernel
theorem d_Disk_recover_14 : decode b_Disk_recover 14 = .ok (.if_icmp .ge 66, 3) := by decide +kernel
theorem d_Disk_recover_17 : decode b_Disk_recover 17 = .ok (.iload_n 1, 1) := by decide +kernel
theorem d_Disk_recover_18 : decode b_Disk_recover 18 = .ok (.ifCond .eq 62, 3) := by decide +kernel
theorem d_Disk_recover_21 : decode b_Disk_recover 21 = .ok (.iload_n 3, 1) := by decide +kernel
theorem d_Disk_recover_22 : decode b_Disk_recover 22 = .ok (.bipush 34, 2) := by decide +kernel
theorem d_Disk_recover_24 : decode b_Disk_recover 24 = .ok (.imul, 1) := by decide +kernel
theorem d_Disk_recover_25 : decode b_Disk_recover 25 = .ok (.istore 4, 2) := by decide +kernel
theorem d_Disk_recover_27 : decode b_Disk_recover 27 = .ok (.aload_n 0, 1) := by decide +kernel
theorem d_Disk_recover_28 : decode b_Disk_recover 28 = .ok (.getfield 17, 3) := by decide +kernel
theorem d_Disk_recover_31 : decode b_Disk_recover 31 = .ok (.iload 4, 2) := by decide +kernel
theorem d_Disk_recover_33 : decode b_Disk_recover 33 = .ok (.baload, 1) := by decide +kernel
theorem d_Disk_recover_34 : decode b_Disk_recover 34 = .ok (.sipush 255, 3) := by decide +kernel
theorem d_Disk_recover_37 : decode b_Disk_recover 37 = .ok (.iand, 1) := by decide +kernel
theorem d_Disk_recover_38 : decode b_Disk_recover 38 = .ok (.bipush 8, 2) := by decide +kernel
theorem d_Disk_recover_40 : decode b_Disk_recover 40 = .ok (.ishl, 1) := by decide +kernel
theorem d_Disk_recover_41 : decode b_Disk_recover 41 = .ok (.aload_n 0, 1) := by decide +kernel
theorem d_Disk_recover_42 : decode b_Disk_recover 42 = .ok (.getfield 17, 3) := by decide +kernel
theorem d_Disk_recover_45 : decode b_Disk_recover 45 = .ok (.iload 4, 2) := by decide +kernel
theorem d_Disk_recover_47 : decode b_Disk_recover 47 = .ok (.iconst 1, 1) := by decide +kernel
theorem d_Disk_recover_48 : decode b_Disk_recover 48 = .ok (.iadd, 1) := by decide +kernel
theorem d_Disk_recover_49 : decode b_Disk_recover 49 = .ok (.baload, 1) := by decide +kernel
theorem d_Disk_recover_50 : decode b_Disk_recover 50 = .ok (.sipush 255, 3) := by decide +kernel
theorem d_Disk_recover_53 : decode b_Disk_recover 53 = .ok (.iand, 1) := by decide +kernel
theorem d_Disk_recover_54 : decode b_Disk_recover 54 = .ok (.ior, 1) := by decide +kernel
theorem d_Disk_recover_55 : decode b_Disk_recover 55 = .ok (.istore 5, 2) := by decide +kernel
theorem d_Disk_recover_57 : decode b_Disk_recover 57 = .ok (.aload_n 0, 1) := by decide +kernel
theorem d_Disk_recover_58 : decode b_Disk_recover 58 = .ok (.iconst 3, 1) := by decide +kernel
theorem d_Disk_recover_59 : decode b_Disk_recover 59 = .ok (.iload_n 3, 1) := by decide +kernel
theorem d_Disk_recover_60 : decode b_Disk_recover 60 = .ok (.iload 5, 2) := by decide +kernel
theorem d_Disk_recover_62 : decode b_Disk_recover 62 = .ok (.aload_n 0, 1) := by decide +kernel
theorem d_Disk_recover_63 : decode b_Disk_recover 63 = .ok (.getfield 17, 3) := by decide +kernel
theorem d_Disk_recover_66 : decode b_Disk_recover 66 = .ok (.iload 4, 2) := by decide +kernel
theorem d_Disk_recover_68 : decode b_Disk_recover 68 = .ok (.iconst 2, 1) := by decide +kernel
theorem d_Disk_recover_69 : decode b_Disk_recover 69 = .ok (.iadd, 1) := by decide +kernel
theorem d_Disk_recover_70 : decode b_Disk_recover 70 = .ok (.invokevirtual 47, 3) := by decide +kernel
theorem d_Disk_recover_73 : decode b_Disk_recover 73 = .ok (.istore_n 1, 1) := by decide +kernel
theorem d_Disk_recover_74 : decode b_Disk_recover 74 = .ok (.iinc 3 1, 3) := by decide +kernel
theorem d_Disk_recover_77 : decode b_Disk_recover 77 = .ok (.goto (-65), 3) := by decide +kernel
theorem d_Disk_recover_80 : decode b_Disk_recover 80 = .ok (.iload_n 1, 1) := by decide +kernel
theorem d_Disk_recover_81 : decode b_Disk_recover 81 = .ok (.ifCond .eq 15, 3) := by decide +kernel
theorem d_Disk_recover_84 : decode b_Disk_recover 84 = .ok (.aload_n 0, 1) := by decide +kernel
theorem d_Disk_recover_85 : decode b_Disk_recover 85 = .ok (.getfield 27, 3) := by decide +kernel
theorem d_Disk_recover_88 : decode b_Disk_recover 88 = .ok (.iconst 3, 1) := by decide +kernel
theorem d_Disk_recover_89 : decode b_Disk_recover 89 = .ok (.if_icmp .eq 7, 3) := by decide +kernel
theorem d_Disk_recover_92 : decode b_Disk_recover 92 = .ok (.iconst 1, 1) := by decide +kernel
theorem d_Disk_recover_93 : decode b_Disk_recover 93 = .ok (.goto 4, 3) := by decide +kernel
theorem d_Disk_recover_96 : decode b_Disk_recover 96 = .ok (.iconst 0, 1) := by decide +kernel
theorem d_Disk_recover_97 : decode b_Disk_recover 97 = .ok (.istore_n 1, 1) := by decide +kernel
theorem d_Disk_recover_98 : decode b_Disk_recover 98 = .ok (.iload_n 1, 1) := by decide +kernel
theorem d_Disk_recover_99 : decode b_Disk_recover 99 = .ok (.ifCond .eq 8, 3) := by decide +kernel
theorem d_Disk_recover_102 : decode b_Disk_recover 102 = .ok (.aload_n 0, 1) := by decide +kernel
theorem d_Disk_recover_103 : decode b_Disk_recover 103 = .ok (.iconst 0, 1) := by decide +kernel
theorem d_Disk_recover_104 : decode b_Disk_recover 104 = .ok (.putfield 23, 3) := by decide +kernel
theorem d_Disk_recover_107 : decode b_Disk_recover 107 = .ok (.aload_n 0, 1) := by decide +kernel
theorem d_Disk_recover_108 : decode b_Disk_recover 108 = .ok (.iconst 4, 1) := by decide +kernel
theorem d_Disk_recover_109 : decode b_Disk_recover 109 = .ok (.putfield 27, 3) := by decide +kernel
theorem d_Disk_recover_112 : decode b_Disk_recover 112 = .ok (.iload_n 1, 1) := by decide +kernel
theorem d_Disk_recover_113 : decode b_Disk_recover 113 = .ok (.ireturn, 1) := by decide +kernel
theorem d_Disk_load_0 : decode b_Disk_load 0 = .ok (.aload_n 1, 1) := by decide +kernel
theorem d_Disk_load_1 : decode b_Disk_load 1 = .ok (.aload_n 0, 1) := by decide +kernel
theorem d_Disk_load_2 : decode b_Disk_load 2 = .ok (.getfield 10, 3) := by decide +kernel
theorem d_Disk_load_5 : decode b_Disk_load 5 = .ok (.invokevirtual 51, 3) := by decide +kernel
theorem d_Disk_load_8 : decode b_Disk_load 8 = .ok (.aload_n 1, 1) := by decide +kernel
theorem d_Disk_load_9 : decode b_Disk_load 9 = .ok (.invokevirtual 57, 3) := by decide +kernel
theorem d_Disk_load_12 : decode b_Disk_load 12 = .ok (.return_, 1) := by decide +kernel
theorem d_Disk_undo_0 : decode b_Disk_undo 0 = .ok (.aload_n 1, 1) := by decide +kernel
theorem d_Disk_undo_1 : decode b_Disk_undo 1 = .ok (.aload_n 0, 1) := by decide +kernel
theorem d_Disk_undo_2 : decode b_Disk_undo 2 = .ok (.getfield 10, 3) := by decide +kernel
theorem d_Disk_undo_5 : decode b_Disk_undo 5 = .ok (.invokevirtual 60, 3) := by decide +kernel
theorem d_Disk_undo_8 : decode b_Disk_undo 8 = .ok (.return_, 1) := by decide +kernel
theorem d_Disk_saveOld_0 : decode b_Disk_saveOld 0 = .ok (.iconst 1, 1) := by decide +kernel
theorem d_Disk_saveOld_1 : decode b_Disk_saveOld 1 = .ok (.istore_n 2, 1) := by decide +kernel
theorem d_Disk_saveOld_2 : decode b_Disk_saveOld 2 = .ok (.iconst 0, 1) := by decide +kernel
theorem d_Disk_saveOld_3 : decode b_Disk_saveOld 3 = .ok (.istore_n 3, 1) := by decide +kernel
theorem d_Disk_saveOld_4 : decode b_Disk_saveOld 4 = .ok (.iconst 0, 1) := by decide +kernel
theorem d_Disk_saveOld_5 : decode b_Disk_saveOld 5 = .ok (.istore 4, 2) := by decide +kernel
theorem d_Disk_saveOld_7 : decode b_Disk_saveOld 7 = .ok (.iload 4, 2) := by decide +kernel
theorem d_Disk_saveOld_9 : decode b_Disk_saveOld 9 = .ok (.sipush 2720, 3) := by decide +kernel
theorem d_Disk_saveOld_12 : decode b_Disk_saveOld 12 = .ok (.if_icmp .ge 33, 3) := by decide +kernel
theorem d_Disk_saveOld_15 : decode b_Disk_saveOld 15 = .ok (.iload_n 2, 1) := by decide +kernel
theorem d_Disk_saveOld_16 : decode b_Disk_saveOld 16 = .ok (.ifCond .eq 29, 3) := by decide +kernel
theorem d_Disk_saveOld_19 : decode b_Disk_saveOld 19 = .ok (.aload_n 1, 1) := by decide +kernel
theorem d_Disk_saveOld_20 : decode b_Disk_saveOld 20 = .ok (.iload 4, 2) := by decide +kernel
theorem d_Disk_saveOld_22 : decode b_Disk_saveOld 22 = .ok (.invokevirtual 63, 3) := by decide +kernel
theorem d_Disk_saveOld_25 : decode b_Disk_saveOld 25 = .ok (.ifCond .eq 14, 3) := by decide +kernel
theorem d_Disk_saveOld_28 : decode b_Disk_saveOld 28 = .ok (.aload_n 0, 1) := by decide +kernel
theorem d_Disk_saveOld_29 : decode b_Disk_saveOld 29 = .ok (.iload_n 3, 1) := by decide +kernel
theorem d_Disk_saveOld_30 : decode b_Disk_saveOld 30 = .ok (.iload 4, 2) := by decide +kernel
theorem d_Disk_saveOld_32 : decode b_Disk_saveOld 32 = .ok (.invokevirtual 67, 3) := by decide +kernel
theorem d_Disk_saveOld_35 : decode b_Disk_saveOld 35 = .ok (.istore_n 2, 1) := by decide +kernel
theorem d_Disk_saveOld_36 : decode b_Disk_saveOld 36 = .ok (.iinc 3 1, 3) := by decide +kernel
theorem d_Disk_saveOld_39 : decode b_Disk_saveOld 39 = .ok (.iinc 4 1, 3) := by decide +kernel
theorem d_Disk_saveOld_42 : decode b_Disk_saveOld 42 = .ok (.goto (-35), 3) := by decide +kernel
theorem d_Disk_saveOld_45 : decode b_Disk_saveOld 45 = .ok (.iload_n 2, 1) := by decide +kernel
theorem d_Disk_saveOld_46 : decode b_Disk_saveOld 46 = .ok (.ireturn, 1) := by decide +kernel
theorem d_Disk_saveNew_0 : decode b_Disk_saveNew 0 = .ok (.iconst 1, 1) := by decide +kernel
theorem d_Disk_saveNew_1 : decode b_Disk_saveNew 1 = .ok (.istore_n 2, 1) := by decide +kernel
theorem d_Disk_saveNew_2 : decode b_Disk_saveNew 2 = .ok (.iconst 0, 1) := by decide +kernel
theorem d_Disk_saveNew_3 : decode b_Disk_saveNew 3 = .ok (.istore_n 3, 1) := by decide +kernel
theorem d_Disk_saveNew_4 : decode b_Disk_saveNew 4 = .ok (.iconst 0, 1) := by decide +kernel
theorem d_Disk_saveNew_5 : decode b_Disk_saveNew 5 = .ok (.istore 4, 2) := by decide +kernel
theorem d_Disk_saveNew_7 : decode b_Disk_saveNew 7 = .ok (.iload 4, 2) := by decide +kernel
theorem d_Disk_saveNew_9 : decode b_Disk_saveNew 9 = .ok (.sipush 2720, 3) := by decide +kernel
theorem d_Disk_saveNew_12 : decode b_Disk_saveNew 12 = .ok (.if_icmp .ge 43, 3) := by decide +kernel
theorem d_Disk_saveNew_15 : decode b_Disk_saveNew 15 = .ok (.iload_n 2, 1) := by decide +kernel
theorem d_Disk_saveNew_16 : decode b_Disk_saveNew 16 = .ok (.ifCond .eq 39, 3) := by decide +kernel
theorem d_Disk_saveNew_19 : decode b_Disk_saveNew 19 = .ok (.aload_n 1, 1) := by decide +kernel
theorem d_Disk_saveNew_20 : decode b_Disk_saveNew 20 = .ok (.iload 4, 2) := by decide +kernel
theorem d_Disk_saveNew_22 : decode b_Disk_saveNew 22 = .ok (.invokevirtual 63, 3) := by decide +kernel
theorem d_Disk_saveNew_25 : decode b_Disk_saveNew 25 = .ok (.ifCond .eq 24, 3) := by decide +kernel
theorem d_Disk_saveNew_28 : decode b_Disk_saveNew 28 = .ok (.aload_n 0, 1) := by decide +kernel
theorem d_Disk_saveNew_29 : decode b_Disk_saveNew 29 = .ok (.iconst 1, 1) := by decide +kernel
theorem d_Disk_saveNew_30 : decode b_Disk_saveNew 30 = .ok (.iload_n 3, 1) := by decide +kernel
theorem d_Disk_saveNew_31 : decode b_Disk_saveNew 31 = .ok (.iload 4, 2) := by decide +kernel
theorem d_Disk_saveNew_33 : decode b_Disk_saveNew 33 = .ok (.aload_n 1, 1) := by decide +kernel
theorem d_Disk_saveNew_34 : decode b_Disk_saveNew 34 = .ok (.invokevirtual 71, 3) := by decide +kernel
theorem d_Disk_saveNew_37 : decode b_Disk_saveNew 37 = .ok (.iload 4, 2) := by decide +kernel
theorem d_Disk_saveNew_39 : decode b_Disk_saveNew 39 = .ok (.bipush 32, 2) := by decide +kernel
theorem d_Disk_saveNew_41 : decode b_Disk_saveNew 41 = .ok (.imul, 1) := by decide +kernel
theorem d_Disk_saveNew_42 : decode b_Disk_saveNew 42 = .ok (.invokevirtual 47, 3) := by decide +kernel
theorem d_Disk_saveNew_45 : decode b_Disk_saveNew 45 = .ok (.istore_n 2, 1) := by decide +kernel
theorem d_Disk_saveNew_46 : decode b_Disk_saveNew 46 = .ok (.iinc 3 1, 3) := by decide +kernel
theorem d_Disk_saveNew_49 : decode b_Disk_saveNew 49 = .ok (.iinc 4 1, 3) := by decide +kernel
theorem d_Disk_saveNew_52 : decode b_Disk_saveNew 52 = .ok (.goto (-45), 3) := by decide +kernel
theorem d_Disk_saveNew_55 : decode b_Disk_saveNew 55 = .ok (.iload_n 2, 1) := by decide +kernel
theorem d_Disk_saveNew_56 : decode b_Disk_saveNew 56 = .ok (.ireturn, 1) := by decide +kernel
theorem d_Disk_endSave_0 : decode b_Disk_endSave 0 = .ok (.aload_n 0, 1) := by decide +kernel
theorem d_Disk_endSave_1 : decode b_Disk_endSave 1 = .ok (.getfield 27, 3) := by decide +kernel
theorem d_Disk_endSave_4 : decode b_Disk_endSave 4 = .ok (.ifCond .eq 26, 3) := by decide +kernel
theorem d_Disk_endSave_7 : decode b_Disk_endSave 7 = .ok (.aload_n 0, 1) := by decide +kernel
theorem d_Disk_endSave_8 : decode b_Disk_endSave 8 = .ok (.getfield 27, 3) := by decide +kernel
theorem d_Disk_endSave_11 : decode b_Disk_endSave 11 = .ok (.iconst 1, 1) := by decide +kernel
theorem d_Disk_endSave_12 : decode b_Disk_endSave 12 = .ok (.if_icmp .eq 18, 3) := by decide +kernel
theorem d_Disk_endSave_15 : decode b_Disk_endSave 15 = .ok (.aload_n 0, 1) := by decide +kernel
theorem d_Disk_endSave_16 : decode b_Disk_endSave 16 = .ok (.getfield 27, 3) := by decide +kernel
theorem d_Disk_endSave_19 : decode b_Disk_endSave 19 = .ok (.iconst 2, 1) := by decide +kernel
theorem d_Disk_endSave_20 : decode b_Disk_endSave 20 = .ok (.if_icmp .ne 14, 3) := by decide +kernel
theorem d_Disk_endSave_23 : decode b_Disk_endSave 23 = .ok (.aload_n 0, 1) := by decide +kernel
theorem d_Disk_endSave_24 : decode b_Disk_endSave 24 = .ok (.getfield 30, 3) := by decide +kernel
theorem d_Disk_endSave_27 : decode b_Disk_endSave 27 = .ok (.ifCond .ne 7, 3) := by decide +kernel
theorem d_Disk_endSave_30 : decode b_Disk_endSave 30 = .ok (.iconst 1, 1) := by decide +kernel
theorem d_Disk_endSave_31 : decode b_Disk_endSave 31 = .ok (.goto 4, 3) := by decide +kernel
theorem d_Disk_endSave_34 : decode b_Disk_endSave 34 = .ok (.iconst 0, 1) := by decide +kernel
theorem d_Disk_endSave_35 : decode b_Disk_endSave 35 = .ok (.istore_n 1, 1) := by decide +kernel
theorem d_Disk_endSave_36 : decode b_Disk_endSave 36 = .ok (.iload_n 1, 1) := by decide +kernel
theorem d_Disk_endSave_37 : decode b_Disk_endSave 37 = .ok (.ifCond .eq 5, 3) := by decide +kernel
theorem d_Disk_endSave_40 : decode b_Disk_endSave 40 = .ok (.iconst 0, 1) := by decide +kernel
theorem d_Disk_endSave_41 : decode b_Disk_endSave 41 = .ok (.ireturn, 1) := by decide +kernel
theorem d_Disk_endSave_42 : decode b_Disk_endSave 42 = .ok (.aload_n 0, 1) := by decide +kernel
theorem d_Disk_endSave_43 : decode b_Disk_endSave 43 = .ok (.iconst 0, 1) := by decide +kernel
theorem d_Disk_endSave_44 : decode b_Disk_endSave 44 = .ok (.putfield 23, 3) := by decide +kernel
theorem d_Disk_endSave_47 : decode b_Disk_endSave 47 = .ok (.aload_n 0, 1) := by decide +kernel
theorem d_Disk_endSave_48 : decode b_Disk_endSave 48 = .ok (.getfield 27, 3) := by decide +kernel
theorem d_Disk_endSave_51 : decode b_Disk_endSave 51 = .ok (.iconst 2, 1) := by decide +kernel
theorem d_Disk_endSave_52 : decode b_Disk_endSave 52 = .ok (.if_icmp .eq 7, 3) := by decide +kernel
theorem d_Disk_endSave_55 : decode b_Disk_endSave 55 = .ok (.iconst 1, 1) := by decide +kernel
theorem d_Disk_endSave_56 : decode b_Disk_endSave 56 = .ok (.goto 4, 3) := by decide +kernel
theorem d_Disk_endSave_59 : decode b_Disk_endSave 59 = .ok (.iconst 0, 1) := by decide +kernel
theorem d_Disk_endSave_60 : decode b_Disk_endSave 60 = .ok (.ireturn, 1) := by decide +kernel
theorem d_Disk_writeJournal_0 : decode b_Disk_writeJournal 0 = .ok (.aload_n 0, 1) := by decide +kernel
theorem d_Disk_writeJournal_1 : decode b_Disk_writeJournal 1 = .ok (.getfield 20, 3) := by decide +kernel
theorem d_Disk_writeJournal_4 : decode b_Disk_writeJournal 4 = .ok (.iconst 0, 1) := by decide +kernel
theorem d_Disk_writeJournal_5 : decode b_Disk_writeJournal 5 = .ok (.iload_n 2, 1) := by decide +kernel
theorem d_Disk_writeJournal_6 : decode b_Disk_writeJournal 6 = .ok (.bipush 8, 2) := by decide +kernel
theorem d_Disk_writeJournal_8 : decode b_Disk_writeJournal 8 = .ok (.ishr, 1) := by decide +kernel
theorem d_Disk_writeJournal_9 : decode b_Disk_writeJournal 9 = .ok (.i2b, 1) := by decide +kernel
theorem d_Disk_writeJournal_10 : decode b_Disk_writeJournal 10 = .ok (.bastore, 1) := by decide +kernel
theorem d_Disk_writeJournal_11 : decode b_Disk_writeJournal 11 = .ok (.aload_n 0, 1) := by decide +kernel
theorem d_Disk_writeJournal_12 : decode b_Disk_writeJournal 12 = .ok (.getfield 20, 3) := by decide +kernel
theorem d_Disk_writeJournal_15 : decode b_Disk_writeJournal 15 = .ok (.iconst 1, 1) := by decide +kernel
theorem d_Disk_writeJournal_16 : decode b_Disk_writeJournal 16 = .ok (.iload_n 2, 1) := by decide +kernel
theorem d_Disk_writeJournal_17 : decode b_Disk_writeJournal 17 = .ok (.i2b, 1) := by decide +kernel
theorem d_Disk_writeJournal_18 : decode b_Disk_writeJournal 18 = .ok (.bastore, 1) := by decide +kernel
theorem d_Disk_writeJournal_19 : decode b_Disk_writeJournal 19 = .ok (.aload_n 0, 1) := by decide +kernel
theorem d_Disk_writeJournal_20 : decode b_Disk_writeJournal 20 = .ok (.getfield 10, 3) := by decide +kernel
theorem d_Disk_writeJournal_23 : decode b_Disk_writeJournal 23 = .ok (.iload_n 2, 1) := by decide +kernel
theorem d_Disk_writeJournal_24 : decode b_Disk_writeJournal 24 = .ok (.bipush 32, 2) := by decide +kernel
theorem d_Disk_writeJournal_26 : decode b_Disk_writeJournal 26 = .ok (.imul, 1) := by decide +kernel
theorem d_Disk_writeJournal_27 : decode b_Disk_writeJournal 27 = .ok (.aload_n 0, 1) := by decide +kernel
theorem d_Disk_writeJournal_28 : decode b_Disk_writeJournal 28 = .ok (.getfield 20, 3) := by decide +kernel
theorem d_Disk_writeJournal_31 : decode b_Disk_writeJournal 31 = .ok (.iconst 2, 1) := by decide +kernel
theorem d_Disk_writeJournal_32 : decode b_Disk_writeJournal 32 = .ok (.bipush 32, 2) := by decide +kernel
theorem d_Disk_writeJournal_34 : decode b_Disk_writeJournal 34 = .ok (.invokestatic 75, 3) := by decide +kernel
theorem d_Disk_writeJournal_37 : decode b_Disk_writeJournal 37 = .ok (.aload_n 0, 1) := by decide +kernel
theorem d_Disk_writeJournal_38 : decode b_Disk_writeJournal 38 = .ok (.iconst 0, 1) := by decide +kernel
theorem d_Disk_writeJournal_39 : decode b_Disk_writeJournal 39 = .ok (.iload_n 1, 1) := by decide +kernel
theorem d_Disk_writeJournal_40 : decode b_Disk_writeJournal 40 = .ok (.bipush 34, 2) := by decide +kernel
theorem d_Disk_writeJournal_42 : decode b_Disk_writeJournal 42 = .ok (.invokevirtual 81, 3) := by decide +kernel
theorem d_Disk_writeJournal_45 : decode b_Disk_writeJournal 45 = .ok (.istore_n 3, 1) := by decide +kernel
theorem d_Disk_writeJournal_46 : decode b_Disk_writeJournal 46 = .ok (.iload_n 3, 1) := by decide +kernel
theorem d_Disk_writeJournal_47 : decode b_Disk_writeJournal 47 = .ok (.aload_n 0, 1) := by decide +kernel
theorem d_Disk_writeJournal_48 : decode b_Disk_writeJournal 48 = .ok (.getfield 17, 3) := by decide +kernel
theorem d_Disk_writeJournal_51 : decode b_Disk_writeJournal 51 = .ok (.arraylength, 1) := by decide +kernel
theorem d_Disk_writeJournal_52 : decode b_Disk_writeJournal 52 = .ok (.aload_n 0, 1) := by decide +kernel
theorem d_Disk_writeJournal_53 : decode b_Disk_writeJournal 53 = .ok (.getfield 23, 3) := by decide +kernel
theorem d_Disk_writeJournal_56 : decode b_Disk_writeJournal 56 = .ok (.isub, 1) := by decide +kernel
theorem d_Disk_writeJournal_57 : decode b_Disk_writeJournal 57 = .ok (.if_icmp .gt 30, 3) := by decide +kernel
theorem d_Disk_writeJournal_60 : decode b_Disk_writeJournal 60 = .ok (.aload_n 0, 1) := by decide +kernel
theorem d_Disk_writeJournal_61 : decode b_Disk_writeJournal 61 = .ok (.getfield 20, 3) := by decide +kernel
theorem d_Disk_writeJournal_64 : decode b_Disk_writeJournal 64 = .ok (.iconst 0, 1) := by decide +kernel
theorem d_Disk_writeJournal_65 : decode b_Disk_writeJournal 65 = .ok (.aload_n 0, 1) := by decide +kernel
theorem d_Disk_writeJournal_66 : decode b_Disk_writeJournal 66 = .ok (.getfield 17, 3) := by decide +kernel
theorem d_Disk_writeJournal_69 : decode b_Disk_writeJournal 69 = .ok (.aload_n 0, 1) := by decide +kernel
theorem d_Disk_writeJournal_70 : decode b_Disk_writeJournal 70 = .ok (.getfield 23, 3) := by decide +kernel
theorem d_Disk_writeJournal_73 : decode b_Disk_writeJournal 73 = .ok (.iload_n 3, 1) := by decide +kernel
theorem d_Disk_writeJournal_74 : decode b_Disk_writeJournal 74 = .ok (.invokestatic 75, 3) := by decide +kernel
theorem d_Disk_writeJournal_77 : decode b_Disk_writeJournal 77 = .ok (.aload_n 0, 1) := by decide +kernel
theorem d_Disk_writeJournal_78 : decode b_Disk_writeJournal 78 = .ok (.dup, 1) := by decide +kernel
theorem d_Disk_writeJournal_79 : decode b_Disk_writeJournal 79 = .ok (.getfield 23, 3) := by decide +kernel
theorem d_Disk_writeJournal_82 : decode b_Disk_writeJournal 82 = .ok (.iload_n 3, 1) := by decide +kernel
theorem d_Disk_writeJournal_83 : decode b_Disk_writeJournal 83 = .ok (.iadd, 1) := by decide +kernel
theorem d_Disk_writeJournal_84 : decode b_Disk_writeJournal 84 = .ok (.putfield 23, 3) := by decide +kernel
theorem d_Disk_writeJournal_87 : decode b_Disk_writeJournal 87 = .ok (.aload_n 0, 1) := by decide +kernel
theorem d_Disk_writeJournal_88 : decode b_Disk_writeJournal 88 = .ok (.iconst 0, 1) := by decide +kernel
theorem d_Disk_writeJournal_89 : decode b_Disk_writeJournal 89 = .ok (.iload_n 1, 1) := by decide +kernel
theorem d_Disk_writeJournal_90 : decode b_Disk_writeJournal 90 = .ok (.invokevirtual 85, 3) := by decide +kernel
theorem d_Disk_writeJournal_93 : decode b_Disk_writeJournal 93 = .ok (.ifCond .ne 7, 3) := by decide +kernel
theorem d_Disk_writeJournal_96 : decode b_Disk_writeJournal 96 = .ok (.iconst 1, 1) := by decide +kernel
theorem d_Disk_writeJournal_97 : decode b_Disk_writeJournal 97 = .ok (.goto 4, 3) := by decide +kernel
theorem d_Disk_writeJournal_100 : decode b_Disk_writeJournal 100 = .ok (.iconst 0, 1) := by decide +kernel
theorem d_Disk_writeJournal_101 : decode b_Disk_writeJournal 101 = .ok (.ireturn, 1) := by decide +kernel
theorem d_Disk_writeFile_0 : decode b_Disk_writeFile 0 = .ok (.aload_n 0, 1) := by decide +kernel
theorem d_Disk_writeFile_1 : decode b_Disk_writeFile 1 = .ok (.iload_n 1, 1) := by decide +kernel
theorem d_Disk_writeFile_2 : decode b_Disk_writeFile 2 = .ok (.iload_n 2, 1) := by decide +kernel
theorem d_Disk_writeFile_3 : decode b_Disk_writeFile 3 = .ok (.bipush 32, 2) := by decide +kernel
theorem d_Disk_writeFile_5 : decode b_Disk_writeFile 5 = .ok (.invokevirtual 81, 3) := by decide +kernel
theorem d_Disk_writeFile_8 : decode b_Disk_writeFile 8 = .ok (.istore 6, 2) := by decide +kernel
theorem d_Disk_writeFile_10 : decode b_Disk_writeFile 10 = .ok (.iload_n 3, 1) := by decide +kernel
theorem d_Disk_writeFile_11 : decode b_Disk_writeFile 11 = .ok (.sipush 2720, 3) := by decide +kernel
theorem d_Disk_writeFile_14 : decode b_Disk_writeFile 14 = .ok (.if_icmp .ge 31, 3) := by decide +kernel
theorem d_Disk_writeFile_17 : decode b_Disk_writeFile 17 = .ok (.iload 5, 2) := by decide +kernel
theorem d_Disk_writeFile_19 : decode b_Disk_writeFile 19 = .ok (.aload 4, 2) := by decide +kernel
theorem d_Disk_writeFile_21 : decode b_Disk_writeFile 21 = .ok (.arraylength, 1) := by decide +kernel
theorem d_Disk_writeFile_22 : decode b_Disk_writeFile 22 = .ok (.iload 6, 2) := by decide +kernel
theorem d_Disk_writeFile_24 : decode b_Disk_writeFile 24 = .ok (.isub, 1) := by decide +kernel
theorem d_Disk_writeFile_25 : decode b_Disk_writeFile 25 = .ok (.if_icmp .gt 20, 3) := by decide +kernel
theorem d_Disk_writeFile_28 : decode b_Disk_writeFile 28 = .ok (.aload 4, 2) := by decide +kernel
theorem d_Disk_writeFile_30 : decode b_Disk_writeFile 30 = .ok (.iload 5, 2) := by decide +kernel
theorem d_Disk_writeFile_32 : decode b_Disk_writeFile 32 = .ok (.aload_n 0, 1) := by decide +kernel
theorem d_Disk_writeFile_33 : decode b_Disk_writeFile 33 = .ok (.getfield 10, 3) := by decide +kernel
theorem d_Disk_writeFile_36 : decode b_Disk_writeFile 36 = .ok (.iload_n 3, 1) := by decide +kernel
theorem d_Disk_writeFile_37 : decode b_Disk_writeFile 37 = .ok (.bipush 32, 2) := by decide +kernel
theorem d_Disk_writeFile_39 : decode b_Disk_writeFile 39 = .ok (.imul, 1) := by decide +kernel
theorem d_Disk_writeFile_40 : decode b_Disk_writeFile 40 = .ok (.iload 6, 2) := by decide +kernel
theorem d_Disk_writeFile_42 : decode b_Disk_writeFile 42 = .ok (.invokestatic 75, 3) := by decide +kernel
theorem d_Disk_writeFile_45 : decode b_Disk_writeFile 45 = .ok (.aload_n 0, 1) := by decide +kernel
theorem d_Disk_writeFile_46 : decode b_Disk_writeFile 46 = .ok (.iload_n 1, 1) := by decide +kernel
theorem d_Disk_writeFile_47 : decode b_Disk_writeFile 47 = .ok (.iload_n 2, 1) := by decide +kernel
theorem d_Disk_writeFile_48 : decode b_Disk_writeFile 48 = .ok (.invokevirtual 85, 3) := by decide +kernel
theorem d_Disk_writeFile_51 : decode b_Disk_writeFile 51 = .ok (.ifCond .ne 7, 3) := by decide +kernel
theorem d_Disk_writeFile_54 : decode b_Disk_writeFile 54 = .ok (.iconst 1, 1) := by decide +kernel
theorem d_Disk_writeFile_55 : decode b_Disk_writeFile 55 = .ok (.goto 4, 3) := by decide +kernel
theorem d_Disk_writeFile_58 : decode b_Disk_writeFile 58 = .ok (.iconst 0, 1) := by decide +kernel
theorem d_Disk_writeFile_59 : decode b_Disk_writeFile 59 = .ok (.ireturn, 1) := by decide +kernel
theorem d_Disk_fails_0 : decode b_Disk_fails 0 = .ok (.aload_n 0, 1) := by decide +kernel
theorem d_Disk_fails_1 : decode b_Disk_fails 1 = .ok (.getfield 27, 3) := by decide +kernel
theorem d_Disk_fails_4 : decode b_Disk_fails 4 = .ok (.iload_n 1, 1) := by decide +kernel
theorem d_Disk_fails_5 : decode b_Disk_fails 5 = .ok (.if_icmp .ne 15, 3) := by decide +kernel
theorem d_Disk_fails_8 : decode b_Disk_fails 8 = .ok (.aload_n 0, 1) := by decide +kernel
theorem d_Disk_fails_9 : decode b_Disk_fails 9 = .ok (.getfield 30, 3) := by decide +kernel
theorem d_Disk_fails_12 : decode b_Disk_fails 12 = .ok (.iload_n 2, 1) := by decide +kernel
theorem d_Disk_fails_13 : decode b_Disk_fails 13 = .ok (.if_icmp .ne 7, 3) := by decide +kernel
theorem d_Disk_fails_16 : decode b_Disk_fails 16 = .ok (.iconst 1, 1) := by decide +kernel
theorem d_Disk_fails_17 : decode b_Disk_fails 17 = .ok (.goto 4, 3) := by decide +kernel
theorem d_Disk_fails_20 : decode b_Disk_fails 20 = .ok (.iconst 0, 1) := by decide +kernel
theorem d_Disk_fails_21 : decode b_Disk_fails 21 = .ok (.ireturn, 1) := by decide +kernel
theorem d_Disk_bytesWritten_0 : decode b_Disk_bytesWritten 0 = .ok (.aload_n 0, 1) := by decide +kernel
theorem d_Disk_bytesWritten_1 : decode b_Disk_bytesWritten 1 = .ok (.iload_n 1, 1) := by decide +kernel
theorem d_Disk_bytesWritten_2 : decode b_Disk_bytesWritten 2 = .ok (.iload_n 2, 1) := by decide +kernel
theorem d_Disk_bytesWritten_3 : decode b_Disk_bytesWritten 3 = .ok (.invokevirtual 85, 3) := by decide +kernel
theorem d_Disk_bytesWritten_6 : decode b_Disk_bytesWritten 6 = .ok (.ifCond .eq 14, 3) := by decide +kernel
theorem d_Disk_bytesWritten_9 : decode b_Disk_bytesWritten 9 = .ok (.aload_n 0, 1) := by decide +kernel
theorem d_Disk_bytesWritten_10 : decode b_Disk_bytesWritten 10 = .ok (.getfield 33, 3) := by decide +kernel
theorem d_Disk_bytesWritten_13 : decode b_Disk_bytesWritten 13 = .ok (.iload_n 3, 1) := by decide +kernel
theorem d_Disk_bytesWritten_14 : decode b_Disk_bytesWritten 14 = .ok (.invokestatic 88, 3) := by decide +kernel
theorem d_Disk_bytesWritten_17 : decode b_Disk_bytesWritten 17 = .ok (.goto 4, 3) := by decide +kernel
theorem d_Disk_bytesWritten_20 : decode b_Disk_bytesWritten 20 = .ok (.iload_n 3, 1) := by decide +kernel
theorem d_Disk_bytesWritten_21 : decode b_Disk_bytesWritten 21 = .ok (.ireturn, 1) := by decide +kernel
theorem d_Marks_init_0 : decode b_Marks_init 0 = .ok (.aload_n 0, 1) := by decide +kernel
theorem d_Marks_init_1 : decode b_Marks_init 1 = .ok (.invokespecial 3, 3) := by decide +kernel
theorem d_Marks_init_4 : decode b_Marks_init 4 = .ok (.aload_n 0, 1) := by decide +kernel
theorem d_Marks_init_5 : decode b_Marks_init 5 = .ok (.iconst 5, 1) := by decide +kernel
theorem d_Marks_init_6 : decode b_Marks_init 6 = .ok (.ldc 9, 2) := by decide +kernel
theorem d_Marks_init_8 : decode b_Marks_init 8 = .ok (.multianewarray 10 2, 4) := by decide +kernel
theorem d_Marks_init_12 : decode b_Marks_init 12 = .ok (.putfield 12, 3) := by decide +kernel
theorem d_Marks_init_15 : decode b_Marks_init 15 = .ok (.aload_n 0, 1) := by decide +kernel
theorem d_Marks_init_16 : decode b_Marks_init 16 = .ok (.iconst 0, 1) := by decide +kernel
theorem d_Marks_init_17 : decode b_Marks_init 17 = .ok (.putfield 17, 3) := by decide +kernel
theorem d_Marks_init_20 : decode b_Marks_init 20 = .ok (.return_, 1) := by decide +kernel
theorem d_Marks_count_0 : decode b_Marks_count 0 = .ok (.aload_n 0, 1) := by decide +kernel
theorem d_Marks_count_1 : decode b_Marks_count 1 = .ok (.getfield 17, 3) := by decide +kernel
theorem d_Marks_count_4 : decode b_Marks_count 4 = .ok (.ireturn, 1) := by decide +kernel
theorem d_Marks_add_0 : decode b_Marks_add 0 = .ok (.aload_n 0, 1) := by decide +kernel
theorem d_Marks_add_1 : decode b_Marks_add 1 = .ok (.getfield 17, 3) := by decide +kernel
theorem d_Marks_add_4 : decode b_Marks_add 4 = .ok (.iconst 5, 1) := by decide +kernel
theorem d_Marks_add_5 : decode b_Marks_add 5 = .ok (.if_icmp .ge 26, 3) := by decide +kernel
theorem d_Marks_add_8 : decode b_Marks_add 8 = .ok (.aload_n 1, 1) := by decide +kernel
theorem d_Marks_add_9 : decode b_Marks_add 9 = .ok (.aload_n 0, 1) := by decide +kernel
theorem d_Marks_add_10 : decode b_Marks_add 10 = .ok (.getfield 12, 3) := by decide +kernel
theorem d_Marks_add_13 : decode b_Marks_add 13 = .ok (.aload_n 0, 1) := by decide +kernel
theorem d_Marks_add_14 : decode b_Marks_add 14 = .ok (.getfield 17, 3) := by decide +kernel
theorem d_Marks_add_17 : decode b_Marks_add 17 = .ok (.aaload, 1) := by decide +kernel
theorem d_Marks_add_18 : decode b_Marks_add 18 = .ok (.invokevirtual 21, 3) := by decide +kernel
theorem d_Marks_add_21 : decode b_Marks_add 21 = .ok (.aload_n 0, 1) := by decide +kernel
theorem d_Marks_add_22 : decode b_Marks_add 22 = .ok (.dup, 1) := by decide +kernel
theorem d_Marks_add_23 : decode b_Marks_add 23 = .ok (.getfield 17, 3) := by decide +kernel
theorem d_Marks_add_26 : decode b_Marks_add 26 = .ok (.iconst 1, 1) := by decide +kernel
theorem d_Marks_add_27 : decode b_Marks_add 27 = .ok (.iadd, 1) := by decide +kernel
theorem d_Marks_add_28 : decode b_Marks_add 28 = .ok (.putfield 17, 3) := by decide +kernel
theorem d_Marks_add_31 : decode b_Marks_add 31 = .ok (.return_, 1) := by decide +kernel
theorem d_Marks_restore_0 : decode b_Marks_restore 0 = .ok (.iload_n 1, 1) := by decide +kernel
theorem d_Marks_restore_1 : decode b_Marks_restore 1 = .ok (.iconst 1, 1) := by decide +kernel
theorem d_Marks_restore_2 : decode b_Marks_restore 2 = .ok (.if_icmp .lt 23, 3) := by decide +kernel
theorem d_Marks_restore_5 : decode b_Marks_restore 5 = .ok (.iload_n 1, 1) := by decide +kernel
theorem d_Marks_restore_6 : decode b_Marks_restore 6 = .ok (.aload_n 0, 1) := by decide +kernel
theorem d_Marks_restore_7 : decode b_Marks_restore 7 = .ok (.getfield 17, 3) := by decide +kernel
theorem d_Marks_restore_10 : decode b_Marks_restore 10 = .ok (.if_icmp .gt 15, 3) := by decide +kernel
theorem d_Marks_restore_13 : decode b_Marks_restore 13 = .ok (.aload_n 2, 1) := by decide +kernel
theorem d_Marks_restore_14 : decode b_Marks_restore 14 = .ok (.aload_n 0, 1) := by decide +kernel
theorem d_Marks_restore_15 : decode b_Marks_restore 15 = .ok (.getfield 12, 3) := by decide +kernel
theorem d_Marks_restore_18 : decode b_Marks_restore 18 = .ok (.iload_n 1, 1) := by decide +kernel
theorem d_Marks_restore_19 : decode b_Marks_restore 19 = .ok (.iconst 1, 1) := by decide +kernel
theorem d_Marks_restore_20 : decode b_Marks_restore 20 = .ok (.isub, 1) := by decide +kernel
theorem d_Marks_restore_21 : decode b_Marks_restore 21 = .ok (.aaload, 1) := by decide +kernel
theorem d_Marks_restore_22 : decode b_Marks_restore 22 = .ok (.invokevirtual 27, 3) := by decide +kernel
theorem d_Marks_restore_25 : decode b_Marks_restore 25 = .ok (.return_, 1) := by decide +kernel
theorem d_Marks_forgetAbove_0 : decode b_Marks_forgetAbove 0 = .ok (.iload_n 1, 1) := by decide +kernel
theorem d_Marks_forgetAbove_1 : decode b_Marks_forgetAbove 1 = .ok (.ifCond .lt 16, 3) := by decide +kernel
theorem d_Marks_forgetAbove_4 : decode b_Marks_forgetAbove 4 = .ok (.iload_n 1, 1) := by decide +kernel
theorem d_Marks_forgetAbove_5 : decode b_Marks_forgetAbove 5 = .ok (.aload_n 0, 1) := by decide +kernel
theorem d_Marks_forgetAbove_6 : decode b_Marks_forgetAbove 6 = .ok (.getfield 17, 3) := by decide +kernel
theorem d_Marks_forgetAbove_9 : decode b_Marks_forgetAbove 9 = .ok (.if_icmp .ge 8, 3) := by decide +kernel
theorem d_Marks_forgetAbove_12 : decode b_Marks_forgetAbove 12 = .ok (.aload_n 0, 1) := by decide +kernel
theorem d_Marks_forgetAbove_13 : decode b_Marks_forgetAbove 13 = .ok (.iload_n 1, 1) := by decide +kernel
theorem d_Marks_forgetAbove_14 : decode b_Marks_forgetAbove 14 = .ok (.putfield 17, 3) := by decide +kernel
theorem d_Marks_forgetAbove_17 : decode b_Marks_forgetAbove 17 = .ok (.return_, 1) := by decide +kernel
