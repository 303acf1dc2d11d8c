theorem d_M_init_0 : decode b_M_init 0 = .ok (.aload_n 0, 1) := by decide +kernel
theorem d_M_init_1 : decode b_M_init 1 = .ok (.invokespecial 1, 3) := by decide +kernel
theorem d_M_init_4 : decode b_M_init 4 = .ok (.aload_n 0, 1) := by decide +kernel
theorem d_M_init_5 : decode b_M_init 5 = .ok (.new 7, 3) := by decide +kernel
theorem d_M_init_8 : decode b_M_init 8 = .ok (.dup, 1) := by decide +kernel
theorem d_M_init_9 : decode b_M_init 9 = .ok (.invokespecial 9, 3) := by decide +kernel
theorem d_M_init_12 : decode b_M_init 12 = .ok (.putfield 10, 3) := by decide +kernel
theorem d_M_init_15 : decode b_M_init 15 = .ok (.aload_n 0, 1) := by decide +kernel
theorem d_M_init_16 : decode b_M_init 16 = .ok (.bipush 80, 2) := by decide +kernel
theorem d_M_init_18 : decode b_M_init 18 = .ok (.anewarray 16, 3) := by decide +kernel
theorem d_M_init_21 : decode b_M_init 21 = .ok (.putfield 18, 3) := by decide +kernel
theorem d_M_init_24 : decode b_M_init 24 = .ok (.aload_n 0, 1) := by decide +kernel
theorem d_M_init_25 : decode b_M_init 25 = .ok (.iconst 0, 1) := by decide +kernel
theorem d_M_init_26 : decode b_M_init 26 = .ok (.putfield 22, 3) := by decide +kernel
theorem d_M_init_29 : decode b_M_init 29 = .ok (.aload_n 0, 1) := by decide +kernel
theorem d_M_init_30 : decode b_M_init 30 = .ok (.iconst 0, 1) := by decide +kernel
theorem d_M_init_31 : decode b_M_init 31 = .ok (.putfield 26, 3) := by decide +kernel
theorem d_M_init_34 : decode b_M_init 34 = .ok (.aload_n 0, 1) := by decide +kernel
theorem d_M_init_35 : decode b_M_init 35 = .ok (.iconst 0, 1) := by decide +kernel
theorem d_M_init_36 : decode b_M_init 36 = .ok (.putfield 29, 3) := by decide +kernel
theorem d_M_init_39 : decode b_M_init 39 = .ok (.aload_n 0, 1) := by decide +kernel
theorem d_M_init_40 : decode b_M_init 40 = .ok (.bipush 80, 2) := by decide +kernel
theorem d_M_init_42 : decode b_M_init 42 = .ok (.newarray .int, 2) := by decide +kernel
theorem d_M_init_44 : decode b_M_init 44 = .ok (.putfield 32, 3) := by decide +kernel
theorem d_M_init_47 : decode b_M_init 47 = .ok (.aload_n 0, 1) := by decide +kernel
theorem d_M_init_48 : decode b_M_init 48 = .ok (.iconst 0, 1) := by decide +kernel
theorem d_M_init_49 : decode b_M_init 49 = .ok (.putfield 36, 3) := by decide +kernel
theorem d_M_init_52 : decode b_M_init 52 = .ok (.aload_n 0, 1) := by decide +kernel
theorem d_M_init_53 : decode b_M_init 53 = .ok (.bipush 80, 2) := by decide +kernel
theorem d_M_init_55 : decode b_M_init 55 = .ok (.newarray .int, 2) := by decide +kernel
theorem d_M_init_57 : decode b_M_init 57 = .ok (.putfield 39, 3) := by decide +kernel
theorem d_M_init_60 : decode b_M_init 60 = .ok (.aload_n 0, 1) := by decide +kernel
theorem d_M_init_61 : decode b_M_init 61 = .ok (.bipush 8, 2) := by decide +kernel
theorem d_M_init_63 : decode b_M_init 63 = .ok (.newarray .int, 2) := by decide +kernel
theorem d_M_init_65 : decode b_M_init 65 = .ok (.putfield 42, 3) := by decide +kernel
theorem d_M_init_68 : decode b_M_init 68 = .ok (.return_, 1) := by decide +kernel
theorem d_M_member_0 : decode b_M_member 0 = .ok (.iload_n 1, 1) := by decide +kernel
theorem d_M_member_1 : decode b_M_member 1 = .ok (.invokestatic 45, 3) := by decide +kernel
theorem d_M_member_4 : decode b_M_member 4 = .ok (.ifCond .eq 17, 3) := by decide +kernel
theorem d_M_member_7 : decode b_M_member 7 = .ok (.iload_n 2, 1) := by decide +kernel
theorem d_M_member_8 : decode b_M_member 8 = .ok (.invokestatic 49, 3) := by decide +kernel
theorem d_M_member_11 : decode b_M_member 11 = .ok (.ifCond .ne 12, 3) := by decide +kernel
theorem d_M_member_14 : decode b_M_member 14 = .ok (.iload_n 2, 1) := by decide +kernel
theorem d_M_member_15 : decode b_M_member 15 = .ok (.invokestatic 45, 3) := by decide +kernel
theorem d_M_member_18 : decode b_M_member 18 = .ok (.ifCond .ne 5, 3) := by decide +kernel
theorem d_M_member_21 : decode b_M_member 21 = .ok (.iconst 0, 1) := by decide +kernel
theorem d_M_member_22 : decode b_M_member 22 = .ok (.ireturn, 1) := by decide +kernel
theorem d_M_member_23 : decode b_M_member 23 = .ok (.aload_n 0, 1) := by decide +kernel
theorem d_M_member_24 : decode b_M_member 24 = .ok (.getfield 10, 3) := by decide +kernel
theorem d_M_member_27 : decode b_M_member 27 = .ok (.iload_n 1, 1) := by decide +kernel
theorem d_M_member_28 : decode b_M_member 28 = .ok (.iload_n 2, 1) := by decide +kernel
theorem d_M_member_29 : decode b_M_member 29 = .ok (.invokevirtual 52, 3) := by decide +kernel
theorem d_M_member_32 : decode b_M_member 32 = .ok (.ireturn, 1) := by decide +kernel
theorem d_M_ring_0 : decode b_M_ring 0 = .ok (.iload_n 1, 1) := by decide +kernel
theorem d_M_ring_1 : decode b_M_ring 1 = .ok (.invokestatic 45, 3) := by decide +kernel
theorem d_M_ring_4 : decode b_M_ring 4 = .ok (.ifCond .eq 10, 3) := by decide +kernel
theorem d_M_ring_7 : decode b_M_ring 7 = .ok (.iload_n 2, 1) := by decide +kernel
theorem d_M_ring_8 : decode b_M_ring 8 = .ok (.invokestatic 45, 3) := by decide +kernel
theorem d_M_ring_11 : decode b_M_ring 11 = .ok (.ifCond .ne 13, 3) := by decide +kernel
theorem d_M_ring_14 : decode b_M_ring 14 = .ok (.new 56, 3) := by decide +kernel
theorem d_M_ring_17 : decode b_M_ring 17 = .ok (.dup, 1) := by decide +kernel
theorem d_M_ring_18 : decode b_M_ring 18 = .ok (.ldc 58, 2) := by decide +kernel
theorem d_M_ring_20 : decode b_M_ring 20 = .ok (.invokespecial 60, 3) := by decide +kernel
theorem d_M_ring_23 : decode b_M_ring 23 = .ok (.athrow, 1) := by decide +kernel
theorem d_M_ring_24 : decode b_M_ring 24 = .ok (.aload_n 0, 1) := by decide +kernel
theorem d_M_ring_25 : decode b_M_ring 25 = .ok (.getfield 10, 3) := by decide +kernel
theorem d_M_ring_28 : decode b_M_ring 28 = .ok (.iload_n 1, 1) := by decide +kernel
theorem d_M_ring_29 : decode b_M_ring 29 = .ok (.iload_n 2, 1) := by decide +kernel
theorem d_M_ring_30 : decode b_M_ring 30 = .ok (.invokevirtual 63, 3) := by decide +kernel
theorem d_M_ring_33 : decode b_M_ring 33 = .ok (.ireturn, 1) := by decide +kernel
theorem d_M_has_0 : decode b_M_has 0 = .ok (.iload_n 1, 1) := by decide +kernel
theorem d_M_has_1 : decode b_M_has 1 = .ok (.invokestatic 45, 3) := by decide +kernel
theorem d_M_has_4 : decode b_M_has 4 = .ok (.ifCond .ne 9, 3) := by decide +kernel
theorem d_M_has_7 : decode b_M_has 7 = .ok (.iload_n 1, 1) := by decide +kernel
theorem d_M_has_8 : decode b_M_has 8 = .ok (.bipush 31, 2) := by decide +kernel
theorem d_M_has_10 : decode b_M_has 10 = .ok (.if_icmp .ne 10, 3) := by decide +kernel
theorem d_M_has_13 : decode b_M_has 13 = .ok (.iload_n 2, 1) := by decide +kernel
theorem d_M_has_14 : decode b_M_has 14 = .ok (.invokestatic 49, 3) := by decide +kernel
theorem d_M_has_17 : decode b_M_has 17 = .ok (.ifCond .ne 13, 3) := by decide +kernel
theorem d_M_has_20 : decode b_M_has 20 = .ok (.new 56, 3) := by decide +kernel
theorem d_M_has_23 : decode b_M_has 23 = .ok (.dup, 1) := by decide +kernel
theorem d_M_has_24 : decode b_M_has 24 = .ok (.ldc 66, 2) := by decide +kernel
theorem d_M_has_26 : decode b_M_has 26 = .ok (.invokespecial 60, 3) := by decide +kernel
theorem d_M_has_29 : decode b_M_has 29 = .ok (.athrow, 1) := by decide +kernel
theorem d_M_has_30 : decode b_M_has 30 = .ok (.aload_n 0, 1) := by decide +kernel
theorem d_M_has_31 : decode b_M_has 31 = .ok (.getfield 10, 3) := by decide +kernel
theorem d_M_has_34 : decode b_M_has 34 = .ok (.iload_n 1, 1) := by decide +kernel
theorem d_M_has_35 : decode b_M_has 35 = .ok (.iload_n 2, 1) := by decide +kernel
theorem d_M_has_36 : decode b_M_has 36 = .ok (.invokevirtual 68, 3) := by decide +kernel
theorem d_M_has_39 : decode b_M_has 39 = .ok (.ireturn, 1) := by decide +kernel
theorem d_M_row_0 : decode b_M_row 0 = .ok (.iload_n 1, 1) := by decide +kernel
theorem d_M_row_1 : decode b_M_row 1 = .ok (.invokestatic 71, 3) := by decide +kernel
theorem d_M_row_4 : decode b_M_row 4 = .ok (.ifCond .eq 10, 3) := by decide +kernel
theorem d_M_row_7 : decode b_M_row 7 = .ok (.iload_n 2, 1) := by decide +kernel
theorem d_M_row_8 : decode b_M_row 8 = .ok (.invokestatic 75, 3) := by decide +kernel
theorem d_M_row_11 : decode b_M_row 11 = .ok (.ifCond .ne 13, 3) := by decide +kernel
theorem d_M_row_14 : decode b_M_row 14 = .ok (.new 78, 3) := by decide +kernel
theorem d_M_row_17 : decode b_M_row 17 = .ok (.dup, 1) := by decide +kernel
theorem d_M_row_18 : decode b_M_row 18 = .ok (.ldc 80, 2) := by decide +kernel
theorem d_M_row_20 : decode b_M_row 20 = .ok (.invokespecial 82, 3) := by decide +kernel
theorem d_M_row_23 : decode b_M_row 23 = .ok (.athrow, 1) := by decide +kernel
theorem d_M_row_24 : decode b_M_row 24 = .ok (.iload_n 3, 1) := by decide +kernel
theorem d_M_row_25 : decode b_M_row 25 = .ok (.invokestatic 83, 3) := by decide +kernel
theorem d_M_row_28 : decode b_M_row 28 = .ok (.ifCond .eq 25, 3) := by decide +kernel
theorem d_M_row_31 : decode b_M_row 31 = .ok (.iload 4, 2) := by decide +kernel
theorem d_M_row_33 : decode b_M_row 33 = .ok (.invokestatic 86, 3) := by decide +kernel
theorem d_M_row_36 : decode b_M_row 36 = .ok (.ifCond .eq 17, 3) := by decide +kernel
theorem d_M_row_39 : decode b_M_row 39 = .ok (.iload 7, 2) := by decide +kernel
theorem d_M_row_41 : decode b_M_row 41 = .ok (.invokestatic 83, 3) := by decide +kernel
theorem d_M_row_44 : decode b_M_row 44 = .ok (.ifCond .eq 9, 3) := by decide +kernel
theorem d_M_row_47 : decode b_M_row 47 = .ok (.iload 4, 2) := by decide +kernel
theorem d_M_row_49 : decode b_M_row 49 = .ok (.iload_n 3, 1) := by decide +kernel
theorem d_M_row_50 : decode b_M_row 50 = .ok (.if_icmp .ge 13, 3) := by decide +kernel
theorem d_M_row_53 : decode b_M_row 53 = .ok (.new 78, 3) := by decide +kernel
theorem d_M_row_56 : decode b_M_row 56 = .ok (.dup, 1) := by decide +kernel
theorem d_M_row_57 : decode b_M_row 57 = .ok (.ldc 89, 2) := by decide +kernel
theorem d_M_row_59 : decode b_M_row 59 = .ok (.invokespecial 82, 3) := by decide +kernel
theorem d_M_row_62 : decode b_M_row 62 = .ok (.athrow, 1) := by decide +kernel
theorem d_M_row_63 : decode b_M_row 63 = .ok (.iload 5, 2) := by decide +kernel
theorem d_M_row_65 : decode b_M_row 65 = .ok (.ifCond .lt 22, 3) := by decide +kernel
theorem d_M_row_68 : decode b_M_row 68 = .ok (.iload 5, 2) := by decide +kernel
theorem d_M_row_70 : decode b_M_row 70 = .ok (.bipush 8, 2) := by decide +kernel
theorem d_M_row_72 : decode b_M_row 72 = .ok (.if_icmp .ge 15, 3) := by decide +kernel
theorem d_M_row_75 : decode b_M_row 75 = .ok (.iload 6, 2) := by decide +kernel
theorem d_M_row_77 : decode b_M_row 77 = .ok (.ifCond .lt 10, 3) := by decide +kernel
theorem d_M_row_80 : decode b_M_row 80 = .ok (.iload 6, 2) := by decide +kernel
theorem d_M_row_82 : decode b_M_row 82 = .ok (.bipush 10, 2) := by decide +kernel
theorem d_M_row_84 : decode b_M_row 84 = .ok (.if_icmp .lt 13, 3) := by decide +kernel
theorem d_M_row_87 : decode b_M_row 87 = .ok (.new 78, 3) := by decide +kernel
theorem d_M_row_90 : decode b_M_row 90 = .ok (.dup, 1) := by decide +kernel
theorem d_M_row_91 : decode b_M_row 91 = .ok (.ldc 91, 2) := by decide +kernel
theorem d_M_row_93 : decode b_M_row 93 = .ok (.invokespecial 82, 3) := by decide +kernel
theorem d_M_row_96 : decode b_M_row 96 = .ok (.athrow, 1) := by decide +kernel
theorem d_M_row_97 : decode b_M_row 97 = .ok (.aload_n 0, 1) := by decide +kernel
theorem d_M_row_98 : decode b_M_row 98 = .ok (.getfield 22, 3) := by decide +kernel
theorem d_M_row_101 : decode b_M_row 101 = .ok (.bipush 80, 2) := by decide +kernel
theorem d_M_row_103 : decode b_M_row 103 = .ok (.if_icmp .lt 13, 3) := by decide +kernel
theorem d_M_row_106 : decode b_M_row 106 = .ok (.new 93, 3) := by decide +kernel
theorem d_M_row_109 : decode b_M_row 109 = .ok (.dup, 1) := by decide +kernel
theorem d_M_row_110 : decode b_M_row 110 = .ok (.ldc 95, 2) := by decide +kernel
theorem d_M_row_112 : decode b_M_row 112 = .ok (.invokespecial 97, 3) := by decide +kernel
theorem d_M_row_115 : decode b_M_row 115 = .ok (.athrow, 1) := by decide +kernel
theorem d_M_row_116 : decode b_M_row 116 = .ok (.aload_n 0, 1) := by decide +kernel
theorem d_M_row_117 : decode b_M_row 117 = .ok (.iload_n 1, 1) := by decide +kernel
theorem d_M_row_118 : decode b_M_row 118 = .ok (.iload_n 2, 1) := by decide +kernel
theorem d_M_row_119 : decode b_M_row 119 = .ok (.iload_n 3, 1) := by decide +kernel
theorem d_M_row_120 : decode b_M_row 120 = .ok (.iload 4, 2) := by decide +kernel
theorem d_M_row_122 : decode b_M_row 122 = .ok (.iload 5, 2) := by decide +kernel
theorem d_M_row_124 : decode b_M_row 124 = .ok (.iload 6, 2) := by decide +kernel
theorem d_M_row_126 : decode b_M_row 126 = .ok (.invokevirtual 98, 3) := by decide +kernel
theorem d_M_row_129 : decode b_M_row 129 = .ok (.istore 8, 2) := by decide +kernel
theorem d_M_row_131 : decode b_M_row 131 = .ok (.iload 8, 2) := by decide +kernel
theorem d_M_row_133 : decode b_M_row 133 = .ok (.iconst (-1), 1) := by decide +kernel
theorem d_M_row_134 : decode b_M_row 134 = .ok (.if_icmp .eq 8, 3) := by decide +kernel
theorem d_M_row_137 : decode b_M_row 137 = .ok (.iconst (-1), 1) := by decide +kernel
theorem d_M_row_138 : decode b_M_row 138 = .ok (.iload 8, 2) := by decide +kernel
theorem d_M_row_140 : decode b_M_row 140 = .ok (.isub, 1) := by decide +kernel
theorem d_M_row_141 : decode b_M_row 141 = .ok (.ireturn, 1) := by decide +kernel
theorem d_M_row_142 : decode b_M_row 142 = .ok (.aload_n 0, 1) := by decide +kernel
theorem d_M_row_143 : decode b_M_row 143 = .ok (.getfield 18, 3) := by decide +kernel
theorem d_M_row_146 : decode b_M_row 146 = .ok (.aload_n 0, 1) := by decide +kernel
theorem d_M_row_147 : decode b_M_row 147 = .ok (.getfield 22, 3) := by decide +kernel
theorem d_M_row_150 : decode b_M_row 150 = .ok (.new 16, 3) := by decide +kernel
theorem d_M_row_153 : decode b_M_row 153 = .ok (.dup, 1) := by decide +kernel
theorem d_M_row_154 : decode b_M_row 154 = .ok (.iload_n 1, 1) := by decide +kernel
theorem d_M_row_155 : decode b_M_row 155 = .ok (.iload_n 2, 1) := by decide +kernel
theorem d_M_row_156 : decode b_M_row 156 = .ok (.iload_n 3, 1) := by decide +kernel
theorem d_M_row_157 : decode b_M_row 157 = .ok (.iload 4, 2) := by decide +kernel
theorem d_M_row_159 : decode b_M_row 159 = .ok (.iload 5, 2) := by decide +kernel
theorem d_M_row_161 : decode b_M_row 161 = .ok (.iload 6, 2) := by decide +kernel
theorem d_M_row_163 : decode b_M_row 163 = .ok (.iload 7, 2) := by decide +kernel
theorem d_M_row_165 : decode b_M_row 165 = .ok (.invokespecial 102, 3) := by decide +kernel
theorem d_M_row_168 : decode b_M_row 168 = .ok (.aastore, 1) := by decide +kernel
theorem d_M_row_169 : decode b_M_row 169 = .ok (.aload_n 0, 1) := by decide +kernel
theorem d_M_row_170 : decode b_M_row 170 = .ok (.dup, 1) := by decide +kernel
theorem d_M_row_171 : decode b_M_row 171 = .ok (.getfield 22, 3) := by decide +kernel
theorem d_M_row_174 : decode b_M_row 174 = .ok (.iconst 1, 1) := by decide +kernel
theorem d_M_row_175 : decode b_M_row 175 = .ok (.iadd, 1) := by decide +kernel
theorem d_M_row_176 : decode b_M_row 176 = .ok (.putfield 22, 3) := by decide +kernel
theorem d_M_row_179 : decode b_M_row 179 = .ok (.aload_n 0, 1) := by decide +kernel
theorem d_M_row_180 : decode b_M_row 180 = .ok (.aload_n 0, 1) := by decide +kernel
theorem d_M_row_181 : decode b_M_row 181 = .ok (.getfield 26, 3) := by decide +kernel
theorem d_M_row_184 : decode b_M_row 184 = .ok (.iload 7, 2) := by decide +kernel
theorem d_M_row_186 : decode b_M_row 186 = .ok (.invokestatic 105, 3) := by decide +kernel
theorem d_M_row_189 : decode b_M_row 189 = .ok (.putfield 26, 3) := by decide +kernel
theorem d_M_row_192 : decode b_M_row 192 = .ok (.aload_n 0, 1) := by decide +kernel
theorem d_M_row_193 : decode b_M_row 193 = .ok (.getfield 22, 3) := by decide +kernel
theorem d_M_row_196 : decode b_M_row 196 = .ok (.ireturn, 1) := by decide +kernel
theorem d_M_exclude_0 : decode b_M_exclude 0 = .ok (.aload_n 0, 1) := by decide +kernel
theorem d_M_exclude_1 : decode b_M_exclude 1 = .ok (.iload_n 1, 1) := by decide +kernel
theorem d_M_exclude_2 : decode b_M_exclude 2 = .ok (.invokevirtual 111, 3) := by decide +kernel
theorem d_M_exclude_5 : decode b_M_exclude 5 = .ok (.astore_n 3, 1) := by decide +kernel
theorem d_M_exclude_6 : decode b_M_exclude 6 = .ok (.aload_n 3, 1) := by decide +kernel
theorem d_M_exclude_7 : decode b_M_exclude 7 = .ok (.ifnull 22, 3) := by decide +kernel
theorem d_M_exclude_10 : decode b_M_exclude 10 = .ok (.iload_n 2, 1) := by decide +kernel
theorem d_M_exclude_11 : decode b_M_exclude 11 = .ok (.invokestatic 49, 3) := by decide +kernel
theorem d_M_exclude_14 : decode b_M_exclude 14 = .ok (.ifCond .eq 15, 3) := by decide +kernel
theorem d_M_exclude_17 : decode b_M_exclude 17 = .ok (.aload_n 3, 1) := by decide +kernel
theorem d_M_exclude_18 : decode b_M_exclude 18 = .ok (.iload_n 2, 1) := by decide +kernel
theorem d_M_exclude_19 : decode b_M_exclude 19 = .ok (.invokevirtual 115, 3) := by decide +kernel
theorem d_M_exclude_22 : decode b_M_exclude 22 = .ok (.ifCond .eq 7, 3) := by decide +kernel
theorem d_M_exclude_25 : decode b_M_exclude 25 = .ok (.iconst 1, 1) := by decide +kernel
theorem d_M_exclude_26 : decode b_M_exclude 26 = .ok (.goto 4, 3) := by decide +kernel
theorem d_M_exclude_29 : decode b_M_exclude 29 = .ok (.iconst 0, 1) := by decide +kernel
theorem d_M_exclude_30 : decode b_M_exclude 30 = .ok (.ireturn, 1) := by decide +kernel
theorem d_M_condition_0 : decode b_M_condition 0 = .ok (.aload_n 0, 1) := by decide +kernel
theorem d_M_condition_1 : decode b_M_condition 1 = .ok (.iload_n 1, 1) := by decide +kernel
theorem d_M_condition_2 : decode b_M_condition 2 = .ok (.invokevirtual 111, 3) := by decide +kernel
theorem d_M_condition_5 : decode b_M_condition 5 = .ok (.astore_n 3, 1) := by decide +kernel
theorem d_M_condition_6 : decode b_M_condition 6 = .ok (.aload_n 3, 1) := by decide +kernel
theorem d_M_condition_7 : decode b_M_condition 7 = .ok (.ifnull 25, 3) := by decide +kernel
theorem d_M_condition_10 : decode b_M_condition 10 = .ok (.iload_n 2, 1) := by decide +kernel
theorem d_M_condition_11 : decode b_M_condition 11 = .ok (.ifCond .lt 21, 3) := by decide +kernel
theorem d_M_condition_14 : decode b_M_condition 14 = .ok (.iload_n 2, 1) := by decide +kernel
theorem d_M_condition_15 : decode b_M_condition 15 = .ok (.bipush 16, 2) := by decide +kernel
theorem d_M_condition_17 : decode b_M_condition 17 = .ok (.if_icmp .ge 15, 3) := by decide +kernel
theorem d_M_condition_20 : decode b_M_condition 20 = .ok (.aload_n 3, 1) := by decide +kernel
theorem d_M_condition_21 : decode b_M_condition 21 = .ok (.iload_n 2, 1) := by decide +kernel
theorem d_M_condition_22 : decode b_M_condition 22 = .ok (.invokevirtual 118, 3) := by decide +kernel
theorem d_M_condition_25 : decode b_M_condition 25 = .ok (.ifCond .eq 7, 3) := by decide +kernel
theorem d_M_condition_28 : decode b_M_condition 28 = .ok (.iconst 1, 1) := by decide +kernel
theorem d_M_condition_29 : decode b_M_condition 29 = .ok (.goto 4, 3) := by decide +kernel
theorem d_M_condition_32 : decode b_M_condition 32 = .ok (.iconst 0, 1) := by decide +kernel
theorem d_M_condition_33 : decode b_M_condition 33 = .ok (.ireturn, 1) := by decide +kernel
theorem d_M_end_0 : decode b_M_end 0 = .ok (.aload_n 0, 1) := by decide +kernel
theorem d_M_end_1 : decode b_M_end 1 = .ok (.iload_n 1, 1) := by decide +kernel
theorem d_M_end_2 : decode b_M_end 2 = .ok (.invokevirtual 111, 3) := by decide +kernel
theorem d_M_end_5 : decode b_M_end 5 = .ok (.astore 4, 2) := by decide +kernel
theorem d_M_end_7 : decode b_M_end 7 = .ok (.aload 4, 2) := by decide +kernel
theorem d_M_end_9 : decode b_M_end 9 = .ok (.ifnonnull 13, 3) := by decide +kernel
theorem d_M_end_12 : decode b_M_end 12 = .ok (.new 56, 3) := by decide +kernel
theorem d_M_end_15 : decode b_M_end 15 = .ok (.dup, 1) := by decide +kernel
theorem d_M_end_16 : decode b_M_end 16 = .ok (.ldc 121, 2) := by decide +kernel
theorem d_M_end_18 : decode b_M_end 18 = .ok (.invokespecial 60, 3) := by decide +kernel
theorem d_M_end_21 : decode b_M_end 21 = .ok (.athrow, 1) := by decide +kernel
theorem d_M_end_22 : decode b_M_end 22 = .ok (.iload_n 2, 1) := by decide +kernel
theorem d_M_end_23 : decode b_M_end 23 = .ok (.invokestatic 86, 3) := by decide +kernel
theorem d_M_end_26 : decode b_M_end 26 = .ok (.ifCond .eq 10, 3) := by decide +kernel
theorem d_M_end_29 : decode b_M_end 29 = .ok (.iload_n 3, 1) := by decide +kernel
theorem d_M_end_30 : decode b_M_end 30 = .ok (.invokestatic 83, 3) := by decide +kernel
theorem d_M_end_33 : decode b_M_end 33 = .ok (.ifCond .ne 13, 3) := by decide +kernel
theorem d_M_end_36 : decode b_M_end 36 = .ok (.new 78, 3) := by decide +kernel
theorem d_M_end_39 : decode b_M_end 39 = .ok (.dup, 1) := by decide +kernel
theorem d_M_end_40 : decode b_M_end 40 = .ok (.ldc 89, 2) := by decide +kernel
theorem d_M_end_42 : decode b_M_end 42 = .ok (.invokespecial 82, 3) := by decide +kernel
theorem d_M_end_45 : decode b_M_end 45 = .ok (.athrow, 1) := by decide +kernel
theorem d_M_end_46 : decode b_M_end 46 = .ok (.aload 4, 2) := by decide +kernel
theorem d_M_end_48 : decode b_M_end 48 = .ok (.getfield 123, 3) := by decide +kernel
theorem d_M_end_51 : decode b_M_end 51 = .ok (.bipush 8, 2) := by decide +kernel
theorem d_M_end_53 : decode b_M_end 53 = .ok (.if_icmp .lt 13, 3) := by decide +kernel
theorem d_M_end_56 : decode b_M_end 56 = .ok (.new 93, 3) := by decide +kernel
theorem d_M_end_59 : decode b_M_end 59 = .ok (.dup, 1) := by decide +kernel
theorem d_M_end_60 : decode b_M_end 60 = .ok (.ldc 126, 2) := by decide +kernel
theorem d_M_end_62 : decode b_M_end 62 = .ok (.invokespecial 97, 3) := by decide +kernel
theorem d_M_end_65 : decode b_M_end 65 = .ok (.athrow, 1) := by decide +kernel
theorem d_M_end_66 : decode b_M_end 66 = .ok (.iload_n 2, 1) := by decide +kernel
theorem d_M_end_67 : decode b_M_end 67 = .ok (.aload 4, 2) := by decide +kernel
theorem d_M_end_69 : decode b_M_end 69 = .ok (.getfield 128, 3) := by decide +kernel
theorem d_M_end_72 : decode b_M_end 72 = .ok (.if_icmp .ge 5, 3) := by decide +kernel
theorem d_M_end_75 : decode b_M_end 75 = .ok (.iconst 0, 1) := by decide +kernel
theorem d_M_end_76 : decode b_M_end 76 = .ok (.ireturn, 1) := by decide +kernel
theorem d_M_end_77 : decode b_M_end 77 = .ok (.aload 4, 2) := by decide +kernel
theorem d_M_end_79 : decode b_M_end 79 = .ok (.iload_n 2, 1) := by decide +kernel
theorem d_M_end_80 : decode b_M_end 80 = .ok (.iload_n 3, 1) := by decide +kernel
theorem d_M_end_81 : decode b_M_end 81 = .ok (.invokevirtual 131, 3) := by decide +kernel
theorem d_M_end_84 : decode b_M_end 84 = .ok (.aload_n 0, 1) := by decide +kernel
theorem d_M_end_85 : decode b_M_end 85 = .ok (.aload_n 0, 1) := by decide +kernel
theorem d_M_end_86 : decode b_M_end 86 = .ok (.getfield 26, 3) := by decide +kernel
theorem d_M_end_89 : decode b_M_end 89 = .ok (.iload_n 3, 1) := by decide +kernel
theorem d_M_end_90 : decode b_M_end 90 = .ok (.invokestatic 105, 3) := by decide +kernel
theorem d_M_end_93 : decode b_M_end 93 = .ok (.putfield 26, 3) := by decide +kernel
theorem d_M_end_96 : decode b_M_end 96 = .ok (.aload 4, 2) := by decide +kernel
theorem d_M_end_98 : decode b_M_end 98 = .ok (.getfield 123, 3) := by decide +kernel
theorem d_M_end_101 : decode b_M_end 101 = .ok (.ireturn, 1) := by decide +kernel
theorem d_M_papers_0 : decode b_M_papers 0 = .ok (.aload_n 0, 1) := by decide +kernel
theorem d_M_papers_1 : decode b_M_papers 1 = .ok (.iload_n 1, 1) := by decide +kernel
theorem d_M_papers_2 : decode b_M_papers 2 = .ok (.ldc 135, 2) := by decide +kernel
theorem d_M_papers_4 : decode b_M_papers 4 = .ok (.iand, 1) := by decide +kernel
theorem d_M_papers_5 : decode b_M_papers 5 = .ok (.putfield 29, 3) := by decide +kernel
theorem d_M_papers_8 : decode b_M_papers 8 = .ok (.return_, 1) := by decide +kernel
theorem d_M_apply_0 : decode b_M_apply 0 = .ok (.iload_n 1, 1) := by decide +kernel
theorem d_M_apply_1 : decode b_M_apply 1 = .ok (.invokestatic 71, 3) := by decide +kernel
theorem d_M_apply_4 : decode b_M_apply 4 = .ok (.iconst 3, 1) := by decide +kernel
theorem d_M_apply_5 : decode b_M_apply 5 = .ok (.if_icmp .ne 25, 3) := by decide +kernel
theorem d_M_apply_8 : decode b_M_apply 8 = .ok (.iload_n 2, 1) := by decide +kernel
theorem d_M_apply_9 : decode b_M_apply 9 = .ok (.invokestatic 49, 3) := by decide +kernel
theorem d_M_apply_12 : decode b_M_apply 12 = .ok (.ifCond .eq 18, 3) := by decide +kernel
theorem d_M_apply_15 : decode b_M_apply 15 = .ok (.iload_n 3, 1) := by decide +kernel
theorem d_M_apply_16 : decode b_M_apply 16 = .ok (.invokestatic 83, 3) := by decide +kernel
theorem d_M_apply_19 : decode b_M_apply 19 = .ok (.ifCond .eq 11, 3) := by decide +kernel
theorem d_M_apply_22 : decode b_M_apply 22 = .ok (.iload 4, 2) := by decide +kernel
theorem d_M_apply_24 : decode b_M_apply 24 = .ok (.invokestatic 83, 3) := by decide +kernel
theorem d_M_apply_27 : decode b_M_apply 27 = .ok (.ifCond .ne 13, 3) := by decide +kernel
theorem d_M_apply_30 : decode b_M_apply 30 = .ok (.new 78, 3) := by decide +kernel
theorem d_M_apply_33 : decode b_M_apply 33 = .ok (.dup, 1) := by decide +kernel
theorem d_M_apply_34 : decode b_M_apply 34 = .ok (.ldc 136, 2) := by decide +kernel
theorem d_M_apply_36 : decode b_M_apply 36 = .ok (.invokespecial 82, 3) := by decide +kernel
theorem d_M_apply_39 : decode b_M_apply 39 = .ok (.athrow, 1) := by decide +kernel
theorem d_M_apply_40 : decode b_M_apply 40 = .ok (.aload_n 0, 1) := by decide +kernel
theorem d_M_apply_41 : decode b_M_apply 41 = .ok (.aload_n 0, 1) := by decide +kernel
theorem d_M_apply_42 : decode b_M_apply 42 = .ok (.getfield 39, 3) := by decide +kernel
theorem d_M_apply_45 : decode b_M_apply 45 = .ok (.iload_n 1, 1) := by decide +kernel
theorem d_M_apply_46 : decode b_M_apply 46 = .ok (.iload_n 2, 1) := by decide +kernel
theorem d_M_apply_47 : decode b_M_apply 47 = .ok (.iload_n 3, 1) := by decide +kernel
theorem d_M_apply_48 : decode b_M_apply 48 = .ok (.iload 4, 2) := by decide +kernel
theorem d_M_apply_50 : decode b_M_apply 50 = .ok (.invokevirtual 138, 3) := by decide +kernel
theorem d_M_apply_53 : decode b_M_apply 53 = .ok (.istore 5, 2) := by decide +kernel
theorem d_M_apply_55 : decode b_M_apply 55 = .ok (.aload_n 0, 1) := by decide +kernel
theorem d_M_apply_56 : decode b_M_apply 56 = .ok (.iload 5, 2) := by decide +kernel
theorem d_M_apply_58 : decode b_M_apply 58 = .ok (.invokevirtual 142, 3) := by decide +kernel
theorem d_M_apply_61 : decode b_M_apply 61 = .ok (.istore 5, 2) := by decide +kernel
theorem d_M_apply_63 : decode b_M_apply 63 = .ok (.iload 5, 2) := by decide +kernel
theorem d_M_apply_65 : decode b_M_apply 65 = .ok (.ifCond .ne 5, 3) := by decide +kernel
theorem d_M_apply_68 : decode b_M_apply 68 = .ok (.iconst 0, 1) := by decide +kernel
theorem d_M_apply_69 : decode b_M_apply 69 = .ok (.ireturn, 1) := by decide +kernel
theorem d_M_apply_70 : decode b_M_apply 70 = .ok (.aload_n 0, 1) := by decide +kernel
theorem d_M_apply_71 : decode b_M_apply 71 = .ok (.iload 5, 2) := by decide +kernel
theorem d_M_apply_73 : decode b_M_apply 73 = .ok (.invokevirtual 145, 3) := by decide +kernel
theorem d_M_apply_76 : decode b_M_apply 76 = .ok (.aload_n 0, 1) := by decide +kernel
theorem d_M_apply_77 : decode b_M_apply 77 = .ok (.iload 5, 2) := by decide +kernel
theorem d_M_apply_79 : decode b_M_apply 79 = .ok (.invokevirtual 149, 3) := by decide +kernel
theorem d_M_apply_82 : decode b_M_apply 82 = .ok (.aload_n 0, 1) := by decide +kernel
theorem d_M_apply_83 : decode b_M_apply 83 = .ok (.getfield 36, 3) := by decide +kernel
theorem d_M_apply_86 : decode b_M_apply 86 = .ok (.ireturn, 1) := by decide +kernel
theorem d_M_at_0 : decode b_M_at 0 = .ok (.iload_n 1, 1) := by decide +kernel
theorem d_M_at_1 : decode b_M_at 1 = .ok (.ifCond .lt 20, 3) := by decide +kernel
theorem d_M_at_4 : decode b_M_at 4 = .ok (.iload_n 1, 1) := by decide +kernel
theorem d_M_at_5 : decode b_M_at 5 = .ok (.aload_n 0, 1) := by decide +kernel
theorem d_M_at_6 : decode b_M_at 6 = .ok (.getfield 36, 3) := by decide +kernel
theorem d_M_at_9 : decode b_M_at 9 = .ok (.if_icmp .ge 12, 3) := by decide +kernel
theorem d_M_at_12 : decode b_M_at 12 = .ok (.aload_n 0, 1) := by decide +kernel
theorem d_M_at_13 : decode b_M_at 13 = .ok (.getfield 32, 3) := by decide +kernel
theorem d_M_at_16 : decode b_M_at 16 = .ok (.iload_n 1, 1) := by decide +kernel
theorem d_M_at_17 : decode b_M_at 17 = .ok (.iaload, 1) := by decide +kernel
theorem d_M_at_18 : decode b_M_at 18 = .ok (.goto 4, 3) := by decide +kernel
theorem d_M_at_21 : decode b_M_at 21 = .ok (.iconst (-1), 1) := by decide +kernel
theorem d_M_at_22 : decode b_M_at 22 = .ok (.ireturn, 1) := by decide +kernel
theorem d_M_scan_0 : decode b_M_scan 0 = .ok (.iload_n 1, 1) := by decide +kernel
theorem d_M_scan_1 : decode b_M_scan 1 = .ok (.invokestatic 71, 3) := by decide +kernel
theorem d_M_scan_4 : decode b_M_scan 4 = .ok (.ifCond .eq 17, 3) := by decide +kernel
theorem d_M_scan_7 : decode b_M_scan 7 = .ok (.iload_n 2, 1) := by decide +kernel
theorem d_M_scan_8 : decode b_M_scan 8 = .ok (.invokestatic 49, 3) := by decide +kernel
theorem d_M_scan_11 : decode b_M_scan 11 = .ok (.ifCond .eq 10, 3) := by decide +kernel
theorem d_M_scan_14 : decode b_M_scan 14 = .ok (.iload_n 3, 1) := by decide +kernel
theorem d_M_scan_15 : decode b_M_scan 15 = .ok (.invokestatic 83, 3) := by decide +kernel
theorem d_M_scan_18 : decode b_M_scan 18 = .ok (.ifCond .ne 13, 3) := by decide +kernel
theorem d_M_scan_21 : decode b_M_scan 21 = .ok (.new 78, 3) := by decide +kernel
theorem d_M_scan_24 : decode b_M_scan 24 = .ok (.dup, 1) := by decide +kernel
theorem d_M_scan_25 : decode b_M_scan 25 = .ok (.ldc 136, 2) := by decide +kernel
theorem d_M_scan_27 : decode b_M_scan 27 = .ok (.invokespecial 82, 3) := by decide +kernel
theorem d_M_scan_30 : decode b_M_scan 30 = .ok (.athrow, 1) := by decide +kernel
theorem d_M_scan_31 : decode b_M_scan 31 = .ok (.aload_n 0, 1) := by decide +kernel
theorem d_M_scan_32 : decode b_M_scan 32 = .ok (.aload_n 0, 1) := by decide +kernel
theorem d_M_scan_33 : decode b_M_scan 33 = .ok (.getfield 32, 3) := by decide +kernel
theorem d_M_scan_36 : decode b_M_scan 36 = .ok (.iload_n 1, 1) := by decide +kernel
theorem d_M_scan_37 : decode b_M_scan 37 = .ok (.iload_n 2, 1) := by decide +kernel
theorem d_M_scan_38 : decode b_M_scan 38 = .ok (.iload_n 3, 1) := by decide +kernel
theorem d_M_scan_39 : decode b_M_scan 39 = .ok (.aload_n 0, 1) := by decide +kernel
theorem d_M_scan_40 : decode b_M_scan 40 = .ok (.getfield 26, 3) := by decide +kernel
theorem d_M_scan_43 : decode b_M_scan 43 = .ok (.invokevirtual 138, 3) := by decide +kernel
theorem d_M_scan_46 : decode b_M_scan 46 = .ok (.istore 4, 2) := by decide +kernel
theorem d_M_scan_48 : decode b_M_scan 48 = .ok (.iload 4, 2) := by decide +kernel
theorem d_M_scan_50 : decode b_M_scan 50 = .ok (.ifCond .le 9, 3) := by decide +kernel
theorem d_M_scan_53 : decode b_M_scan 53 = .ok (.aload_n 0, 1) := by decide +kernel
theorem d_M_scan_54 : decode b_M_scan 54 = .ok (.iload 4, 2) := by decide +kernel
theorem d_M_scan_56 : decode b_M_scan 56 = .ok (.putfield 36, 3) := by decide +kernel
theorem d_M_scan_59 : decode b_M_scan 59 = .ok (.iload 4, 2) := by decide +kernel
theorem d_M_scan_61 : decode b_M_scan 61 = .ok (.ireturn, 1) := by decide +kernel
theorem d_M_change_0 : decode b_M_change 0 = .ok (.iload_n 1, 1) := by decide +kernel
theorem d_M_change_1 : decode b_M_change 1 = .ok (.invokestatic 83, 3) := by decide +kernel
theorem d_M_change_4 : decode b_M_change 4 = .ok (.ifCond .eq 10, 3) := by decide +kernel
theorem d_M_change_7 : decode b_M_change 7 = .ok (.iload_n 2, 1) := by decide +kernel
theorem d_M_change_8 : decode b_M_change 8 = .ok (.invokestatic 83, 3) := by decide +kernel
theorem d_M_change_11 : decode b_M_change 11 = .ok (.ifCond .ne 13, 3) := by decide +kernel
theorem d_M_change_14 : decode b_M_change 14 = .ok (.new 78, 3) := by decide +kernel
theorem d_M_change_17 : decode b_M_change 17 = .ok (.dup, 1) := by decide +kernel
theorem d_M_change_18 : decode b_M_change 18 = .ok (.ldc 89, 2) := by decide +kernel
theorem d_M_change_20 : decode b_M_change 20 = .ok (.invokespecial 82, 3) := by decide +kernel
theorem d_M_change_23 : decode b_M_change 23 = .ok (.athrow, 1) := by decide +kernel
theorem d_M_change_24 : decode b_M_change 24 = .ok (.iconst 0, 1) := by decide +kernel
theorem d_M_change_25 : decode b_M_change 25 = .ok (.istore 4, 2) := by decide +kernel
theorem d_M_change_27 : decode b_M_change 27 = .ok (.iconst 1, 1) := by decide +kernel
theorem d_M_change_28 : decode b_M_change 28 = .ok (.istore 5, 2) := by decide +kernel
theorem d_M_change_30 : decode b_M_change 30 = .ok (.iload 5, 2) := by decide +kernel
theorem d_M_change_32 : decode b_M_change 32 = .ok (.aload_n 0, 1) := by decide +kernel
theorem d_M_change_33 : decode b_M_change 33 = .ok (.getfield 22, 3) := by decide +kernel
theorem d_M_change_36 : decode b_M_change 36 = .ok (.if_icmp .gt 57, 3) := by decide +kernel
theorem d_M_change_39 : decode b_M_change 39 = .ok (.aload_n 0, 1) := by decide +kernel
theorem d_M_change_40 : decode b_M_change 40 = .ok (.iload 5, 2) := by decide +kernel
theorem d_M_change_42 : decode b_M_change 42 = .ok (.invokevirtual 111, 3) := by decide +kernel
theorem d_M_change_45 : decode b_M_change 45 = .ok (.astore 6, 2) := by decide +kernel
theorem d_M_change_47 : decode b_M_change 47 = .ok (.aload 6, 2) := by decide +kernel
theorem d_M_change_49 : decode b_M_change 49 = .ok (.ifnull 38, 3) := by decide +kernel
theorem d_M_change_52 : decode b_M_change 52 = .ok (.aload 6, 2) := by decide +kernel
theorem d_M_change_54 : decode b_M_change 54 = .ok (.iload_n 1, 1) := by decide +kernel
theorem d_M_change_55 : decode b_M_change 55 = .ok (.aload_n 0, 1) := by decide +kernel
theorem d_M_change_56 : decode b_M_change 56 = .ok (.getfield 26, 3) := by decide +kernel
theorem d_M_change_59 : decode b_M_change 59 = .ok (.invokevirtual 152, 3) := by decide +kernel
theorem d_M_change_62 : decode b_M_change 62 = .ok (.aload 6, 2) := by decide +kernel
theorem d_M_change_64 : decode b_M_change 64 = .ok (.iload_n 2, 1) := by decide +kernel
theorem d_M_change_65 : decode b_M_change 65 = .ok (.aload_n 0, 1) := by decide +kernel
theorem d_M_change_66 : decode b_M_change 66 = .ok (.getfield 26, 3) := by decide +kernel
theorem d_M_change_69 : decode b_M_change 69 = .ok (.invokevirtual 152, 3) := by decide +kernel
theorem d_M_change_72 : decode b_M_change 72 = .ok (.if_icmp .eq 15, 3) := by decide +kernel
theorem d_M_change_75 : decode b_M_change 75 = .ok (.iload 4, 2) := by decide +kernel
theorem d_M_change_77 : decode b_M_change 77 = .ok (.iload_n 3, 1) := by decide +kernel
theorem d_M_change_78 : decode b_M_change 78 = .ok (.if_icmp .ne 6, 3) := by decide +kernel
theorem d_M_change_81 : decode b_M_change 81 = .ok (.iload 5, 2) := by decide +kernel
theorem d_M_change_83 : decode b_M_change 83 = .ok (.ireturn, 1) := by decide +kernel
theorem d_M_change_84 : decode b_M_change 84 = .ok (.iinc 4 1, 3) := by decide +kernel
theorem d_M_change_87 : decode b_M_change 87 = .ok (.iinc 5 1, 3) := by decide +kernel
theorem d_M_change_90 : decode b_M_change 90 = .ok (.goto (-60), 3) := by decide +kernel
theorem d_M_change_93 : decode b_M_change 93 = .ok (.iconst (-1), 1) := by decide +kernel
theorem d_M_change_94 : decode b_M_change 94 = .ok (.ireturn, 1) := by decide +kernel
theorem d_M_look_0 : decode b_M_look 0 = .ok (.aload_n 0, 1) := by decide +kernel
theorem d_M_look_1 : decode b_M_look 1 = .ok (.iload_n 1, 1) := by decide +kernel
theorem d_M_look_2 : decode b_M_look 2 = .ok (.invokevirtual 111, 3) := by decide +kernel
theorem d_M_look_5 : decode b_M_look 5 = .ok (.astore_n 3, 1) := by decide +kernel
theorem d_M_look_6 : decode b_M_look 6 = .ok (.aload_n 3, 1) := by decide +kernel
theorem d_M_look_7 : decode b_M_look 7 = .ok (.ifnonnull 13, 3) := by decide +kernel
theorem d_M_look_10 : decode b_M_look 10 = .ok (.new 56, 3) := by decide +kernel
theorem d_M_look_13 : decode b_M_look 13 = .ok (.dup, 1) := by decide +kernel
theorem d_M_look_14 : decode b_M_look 14 = .ok (.ldc 121, 2) := by decide +kernel
theorem d_M_look_16 : decode b_M_look 16 = .ok (.invokespecial 60, 3) := by decide +kernel
theorem d_M_look_19 : decode b_M_look 19 = .ok (.athrow, 1) := by decide +kernel
theorem d_M_look_20 : decode b_M_look 20 = .ok (.iload_n 2, 1) := by decide +kernel
theorem d_M_look_21 : decode b_M_look 21 = .ok (.tableswitch 115 0 9 #[55, 60, 65, 70, 79, 84, 89, 94, 99, 107], 55) := by decide +kernel
theorem d_M_look_76 : decode b_M_look 76 = .ok (.aload_n 3, 1) := by decide +kernel
theorem d_M_look_77 : decode b_M_look 77 = .ok (.getfield 155, 3) := by decide +kernel
theorem d_M_look_80 : decode b_M_look 80 = .ok (.ireturn, 1) := by decide +kernel
theorem d_M_look_81 : decode b_M_look 81 = .ok (.aload_n 3, 1) := by decide +kernel
theorem d_M_look_82 : decode b_M_look 82 = .ok (.getfield 158, 3) := by decide +kernel
theorem d_M_look_85 : decode b_M_look 85 = .ok (.ireturn, 1) := by decide +kernel
theorem d_M_look_86 : decode b_M_look 86 = .ok (.aload_n 3, 1) := by decide +kernel
theorem d_M_look_87 : decode b_M_look 87 = .ok (.getfield 128, 3) := by decide +kernel
theorem d_M_look_90 : decode b_M_look 90 = .ok (.ireturn, 1) := by decide +kernel
theorem d_M_look_91 : decode b_M_look 91 = .ok (.aload_n 3, 1) := by decide +kernel
theorem d_M_look_92 : decode b_M_look 92 = .ok (.aload_n 0, 1) := by decide +kernel
theorem d_M_look_93 : decode b_M_look 93 = .ok (.getfield 26, 3) := by decide +kernel
theorem d_M_look_96 : decode b_M_look 96 = .ok (.invokevirtual 161, 3) := by decide +kernel
theorem d_M_look_99 : decode b_M_look 99 = .ok (.ireturn, 1) := by decide +kernel
theorem d_M_look_100 : decode b_M_look 100 = .ok (.aload_n 3, 1) := by decide +kernel
theorem d_M_look_101 : decode b_M_look 101 = .ok (.getfield 164, 3) := by decide +kernel
theorem d_M_look_104 : decode b_M_look 104 = .ok (.ireturn, 1) := by decide +kernel
theorem d_M_look_105 : decode b_M_look 105 = .ok (.aload_n 3, 1) := by decide +kernel
theorem d_M_look_106 : decode b_M_look 106 = .ok (.getfield 167, 3) := by decide +kernel
theorem d_M_look_109 : decode b_M_look 109 = .ok (.ireturn, 1) := by decide +kernel
theorem d_M_look_110 : decode b_M_look 110 = .ok (.aload_n 3, 1) := by decide +kernel
theorem d_M_look_111 : decode b_M_look 111 = .ok (.getfield 170, 3) := by decide +kernel
theorem d_M_look_114 : decode b_M_look 114 = .ok (.ireturn, 1) := by decide +kernel
theorem d_M_look_115 : decode b_M_look 115 = .ok (.aload_n 3, 1) := by decide +kernel
theorem d_M_look_116 : decode b_M_look 116 = .ok (.getfield 123, 3) := by decide +kernel
theorem d_M_look_119 : decode b_M_look 119 = .ok (.ireturn, 1) := by decide +kernel
theorem d_M_look_120 : decode b_M_look 120 = .ok (.aload_n 3, 1) := by decide +kernel
theorem d_M_look_121 : decode b_M_look 121 = .ok (.getfield 173, 3) := by decide +kernel
theorem d_M_look_124 : decode b_M_look 124 = .ok (.invokestatic 176, 3) := by decide +kernel
theorem d_M_look_127 : decode b_M_look 127 = .ok (.ireturn, 1) := by decide +kernel
theorem d_M_look_128 : decode b_M_look 128 = .ok (.aload_n 3, 1) := by decide +kernel
theorem d_M_look_129 : decode b_M_look 129 = .ok (.getfield 181, 3) := by decide +kernel
theorem d_M_look_132 : decode b_M_look 132 = .ok (.invokestatic 176, 3) := by decide +kernel
theorem d_M_look_135 : decode b_M_look 135 = .ok (.ireturn, 1) := by decide +kernel
theorem d_M_look_136 : decode b_M_look 136 = .ok (.new 56, 3) := by decide +kernel
theorem d_M_look_139 : decode b_M_look 139 = .ok (.dup, 1) := by decide +kernel
theorem d_M_look_140 : decode b_M_look 140 = .ok (.ldc 184, 2) := by decide +kernel
theorem d_M_look_142 : decode b_M_look 142 = .ok (.invokespecial 60, 3) := by decide +kernel
theorem d_M_look_145 : decode b_M_look 145 = .ok (.athrow, 1) := by decide +kernel
theorem d_M_count_0 : decode b_M_count 0 = .ok (.iload_n 1, 1) := by decide +kernel
theorem d_M_count_1 : decode b_M_count 1 = .ok (.invokestatic 45, 3) := by decide +kernel
theorem d_M_count_4 : decode b_M_count 4 = .ok (.ifCond .eq 12, 3) := by decide +kernel
theorem d_M_count_7 : decode b_M_count 7 = .ok (.aload_n 0, 1) := by decide +kernel
theorem d_M_count_8 : decode b_M_count 8 = .ok (.getfield 10, 3) := by decide +kernel
theorem d_M_count_11 : decode b_M_count 11 = .ok (.iload_n 1, 1) := by decide +kernel
theorem d_M_count_12 : decode b_M_count 12 = .ok (.invokevirtual 186, 3) := by decide +kernel
theorem d_M_count_15 : decode b_M_count 15 = .ok (.ireturn, 1) := by decide +kernel
theorem d_M_count_16 : decode b_M_count 16 = .ok (.iload_n 1, 1) := by decide +kernel
theorem d_M_count_17 : decode b_M_count 17 = .ok (.tableswitch 51 0 3 #[31, 36, 41, 46], 31) := by decide +kernel
theorem d_M_count_48 : decode b_M_count 48 = .ok (.aload_n 0, 1) := by decide +kernel
theorem d_M_count_49 : decode b_M_count 49 = .ok (.getfield 22, 3) := by decide +kernel
theorem d_M_count_52 : decode b_M_count 52 = .ok (.ireturn, 1) := by decide +kernel
theorem d_M_count_53 : decode b_M_count 53 = .ok (.aload_n 0, 1) := by decide +kernel
theorem d_M_count_54 : decode b_M_count 54 = .ok (.getfield 26, 3) := by decide +kernel
theorem d_M_count_57 : decode b_M_count 57 = .ok (.ireturn, 1) := by decide +kernel
theorem d_M_count_58 : decode b_M_count 58 = .ok (.aload_n 0, 1) := by decide +kernel
theorem d_M_count_59 : decode b_M_count 59 = .ok (.getfield 36, 3) := by decide +kernel
theorem d_M_count_62 : decode b_M_count 62 = .ok (.ireturn, 1) := by decide +kernel
theorem d_M_count_63 : decode b_M_count 63 = .ok (.aload_n 0, 1) := by decide +kernel
theorem d_M_count_64 : decode b_M_count 64 = .ok (.getfield 29, 3) := by decide +kernel
theorem d_M_count_67 : decode b_M_count 67 = .ok (.ireturn, 1) := by decide +kernel
theorem d_M_count_68 : decode b_M_count 68 = .ok (.iconst (-1), 1) := by decide +kernel
theorem d_M_count_69 : decode b_M_count 69 = .ok (.ireturn, 1) := by decide +kernel
theorem d_M_find_0 : decode b_M_find 0 = .ok (.iload_n 1, 1) := by decide +kernel
theorem d_M_find_1 : decode b_M_find 1 = .ok (.iconst 1, 1) := by decide +kernel
theorem d_M_find_2 : decode b_M_find 2 = .ok (.if_icmp .lt 22, 3) := by decide +kernel
theorem d_M_find_5 : decode b_M_find 5 = .ok (.iload_n 1, 1) := by decide +kernel
theorem d_M_find_6 : decode b_M_find 6 = .ok (.aload_n 0, 1) := by decide +kernel
theorem d_M_find_7 : decode b_M_find 7 = .ok (.getfield 22, 3) := by decide +kernel
theorem d_M_find_10 : decode b_M_find 10 = .ok (.if_icmp .gt 14, 3) := by decide +kernel
theorem d_M_find_13 : decode b_M_find 13 = .ok (.aload_n 0, 1) := by decide +kernel
theorem d_M_find_14 : decode b_M_find 14 = .ok (.getfield 18, 3) := by decide +kernel
theorem d_M_find_17 : decode b_M_find 17 = .ok (.iload_n 1, 1) := by decide +kernel
theorem d_M_find_18 : decode b_M_find 18 = .ok (.iconst 1, 1) := by decide +kernel
theorem d_M_find_19 : decode b_M_find 19 = .ok (.isub, 1) := by decide +kernel
theorem d_M_find_20 : decode b_M_find 20 = .ok (.aaload, 1) := by decide +kernel
theorem d_M_find_21 : decode b_M_find 21 = .ok (.goto 4, 3) := by decide +kernel
theorem d_M_find_24 : decode b_M_find 24 = .ok (.aconst_null, 1) := by decide +kernel
theorem d_M_find_25 : decode b_M_find 25 = .ok (.areturn, 1) := by decide +kernel
theorem d_M_leastClash_0 : decode b_M_leastClash 0 = .ok (.iconst 1, 1) := by decide +kernel
theorem d_M_leastClash_1 : decode b_M_leastClash 1 = .ok (.istore 7, 2) := by decide +kernel
theorem d_M_leastClash_3 : decode b_M_leastClash 3 = .ok (.iload 7, 2) := by decide +kernel
theorem d_M_leastClash_5 : decode b_M_leastClash 5 = .ok (.aload_n 0, 1) := by decide +kernel
theorem d_M_leastClash_6 : decode b_M_leastClash 6 = .ok (.getfield 22, 3) := by decide +kernel
theorem d_M_leastClash_9 : decode b_M_leastClash 9 = .ok (.if_icmp .gt 54, 3) := by decide +kernel
theorem d_M_leastClash_12 : decode b_M_leastClash 12 = .ok (.aload_n 0, 1) := by decide +kernel
theorem d_M_leastClash_13 : decode b_M_leastClash 13 = .ok (.iload 7, 2) := by decide +kernel
theorem d_M_leastClash_15 : decode b_M_leastClash 15 = .ok (.invokevirtual 111, 3) := by decide +kernel
theorem d_M_leastClash_18 : decode b_M_leastClash 18 = .ok (.astore 8, 2) := by decide +kernel
theorem d_M_leastClash_20 : decode b_M_leastClash 20 = .ok (.aload 8, 2) := by decide +kernel
theorem d_M_leastClash_22 : decode b_M_leastClash 22 = .ok (.ifnull 35, 3) := by decide +kernel
theorem d_M_leastClash_25 : decode b_M_leastClash 25 = .ok (.aload 8, 2) := by decide +kernel
theorem d_M_leastClash_27 : decode b_M_leastClash 27 = .ok (.iload_n 1, 1) := by decide +kernel
theorem d_M_leastClash_28 : decode b_M_leastClash 28 = .ok (.iload_n 2, 1) := by decide +kernel
theorem d_M_leastClash_29 : decode b_M_leastClash 29 = .ok (.iload 5, 2) := by decide +kernel
theorem d_M_leastClash_31 : decode b_M_leastClash 31 = .ok (.iload 6, 2) := by decide +kernel
theorem d_M_leastClash_33 : decode b_M_leastClash 33 = .ok (.invokevirtual 189, 3) := by decide +kernel
theorem d_M_leastClash_36 : decode b_M_leastClash 36 = .ok (.ifCond .eq 21, 3) := by decide +kernel
theorem d_M_leastClash_39 : decode b_M_leastClash 39 = .ok (.aload 8, 2) := by decide +kernel
theorem d_M_leastClash_41 : decode b_M_leastClash 41 = .ok (.iload_n 3, 1) := by decide +kernel
theorem d_M_leastClash_42 : decode b_M_leastClash 42 = .ok (.iload 4, 2) := by decide +kernel
theorem d_M_leastClash_44 : decode b_M_leastClash 44 = .ok (.aload_n 0, 1) := by decide +kernel
theorem d_M_leastClash_45 : decode b_M_leastClash 45 = .ok (.getfield 26, 3) := by decide +kernel
theorem d_M_leastClash_48 : decode b_M_leastClash 48 = .ok (.invokevirtual 193, 3) := by decide +kernel
theorem d_M_leastClash_51 : decode b_M_leastClash 51 = .ok (.ifCond .eq 6, 3) := by decide +kernel
theorem d_M_leastClash_54 : decode b_M_leastClash 54 = .ok (.iload 7, 2) := by decide +kernel
theorem d_M_leastClash_56 : decode b_M_leastClash 56 = .ok (.ireturn, 1) := by decide +kernel
theorem d_M_leastClash_57 : decode b_M_leastClash 57 = .ok (.iinc 7 1, 3) := by decide +kernel
theorem d_M_leastClash_60 : decode b_M_leastClash 60 = .ok (.goto (-57), 3) := by decide +kernel
theorem d_M_leastClash_63 : decode b_M_leastClash 63 = .ok (.iconst (-1), 1) := by decide +kernel
theorem d_M_leastClash_64 : decode b_M_leastClash 64 = .ok (.ireturn, 1) := by decide +kernel
theorem d_M_gather_0 : decode b_M_gather 0 = .ok (.iconst 0, 1) := by decide +kernel
theorem d_M_gather_1 : decode b_M_gather 1 = .ok (.istore 6, 2) := by decide +kernel
theorem d_M_gather_3 : decode b_M_gather 3 = .ok (.iconst 1, 1) := by decide +kernel
theorem d_M_gather_4 : decode b_M_gather 4 = .ok (.istore 7, 2) := by decide +kernel
theorem d_M_gather_6 : decode b_M_gather 6 = .ok (.iload 7, 2) := by decide +kernel
theorem d_M_gather_8 : decode b_M_gather 8 = .ok (.aload_n 0, 1) := by decide +kernel
theorem d_M_gather_9 : decode b_M_gather 9 = .ok (.getfield 22, 3) := by decide +kernel
theorem d_M_gather_12 : decode b_M_gather 12 = .ok (.if_icmp .gt 75, 3) := by decide +kernel
theorem d_M_gather_15 : decode b_M_gather 15 = .ok (.aload_n 0, 1) := by decide +kernel
theorem d_M_gather_16 : decode b_M_gather 16 = .ok (.iload 7, 2) := by decide +kernel
theorem d_M_gather_18 : decode b_M_gather 18 = .ok (.invokevirtual 111, 3) := by decide +kernel
theorem d_M_gather_21 : decode b_M_gather 21 = .ok (.astore 8, 2) := by decide +kernel
theorem d_M_gather_23 : decode b_M_gather 23 = .ok (.aload 8, 2) := by decide +kernel
theorem d_M_gather_25 : decode b_M_gather 25 = .ok (.ifnull 56, 3) := by decide +kernel
theorem d_M_gather_28 : decode b_M_gather 28 = .ok (.aload 8, 2) := by decide +kernel
theorem d_M_gather_30 : decode b_M_gather 30 = .ok (.getfield 170, 3) := by decide +kernel
theorem d_M_gather_33 : decode b_M_gather 33 = .ok (.iload 5, 2) := by decide +kernel
theorem d_M_gather_35 : decode b_M_gather 35 = .ok (.if_icmp .gt 46, 3) := by decide +kernel
theorem d_M_gather_38 : decode b_M_gather 38 = .ok (.iload_n 2, 1) := by decide +kernel
theorem d_M_gather_39 : decode b_M_gather 39 = .ok (.aload 8, 2) := by decide +kernel
theorem d_M_gather_41 : decode b_M_gather 41 = .ok (.getfield 155, 3) := by decide +kernel
theorem d_M_gather_44 : decode b_M_gather 44 = .ok (.invokestatic 197, 3) := by decide +kernel
theorem d_M_gather_47 : decode b_M_gather 47 = .ok (.ifCond .eq 34, 3) := by decide +kernel
theorem d_M_gather_50 : decode b_M_gather 50 = .ok (.aload_n 0, 1) := by decide +kernel
theorem d_M_gather_51 : decode b_M_gather 51 = .ok (.aload 8, 2) := by decide +kernel
theorem d_M_gather_53 : decode b_M_gather 53 = .ok (.iload_n 3, 1) := by decide +kernel
theorem d_M_gather_54 : decode b_M_gather 54 = .ok (.invokevirtual 200, 3) := by decide +kernel
theorem d_M_gather_57 : decode b_M_gather 57 = .ok (.ifCond .eq 24, 3) := by decide +kernel
theorem d_M_gather_60 : decode b_M_gather 60 = .ok (.aload 8, 2) := by decide +kernel
theorem d_M_gather_62 : decode b_M_gather 62 = .ok (.iload 4, 2) := by decide +kernel
theorem d_M_gather_64 : decode b_M_gather 64 = .ok (.iload 5, 2) := by decide +kernel
theorem d_M_gather_66 : decode b_M_gather 66 = .ok (.invokevirtual 152, 3) := by decide +kernel
theorem d_M_gather_69 : decode b_M_gather 69 = .ok (.ifCond .eq 12, 3) := by decide +kernel
theorem d_M_gather_72 : decode b_M_gather 72 = .ok (.aload_n 1, 1) := by decide +kernel
theorem d_M_gather_73 : decode b_M_gather 73 = .ok (.iload 6, 2) := by decide +kernel
theorem d_M_gather_75 : decode b_M_gather 75 = .ok (.iload 7, 2) := by decide +kernel
theorem d_M_gather_77 : decode b_M_gather 77 = .ok (.iastore, 1) := by decide +kernel
theorem d_M_gather_78 : decode b_M_gather 78 = .ok (.iinc 6 1, 3) := by decide +kernel
theorem d_M_gather_81 : decode b_M_gather 81 = .ok (.iinc 7 1, 3) := by decide +kernel
theorem d_M_gather_84 : decode b_M_gather 84 = .ok (.goto (-78), 3) := by decide +kernel
theorem d_M_gather_87 : decode b_M_gather 87 = .ok (.iload 6, 2) := by decide +kernel
theorem d_M_gather_89 : decode b_M_gather 89 = .ok (.ireturn, 1) := by decide +kernel
theorem d_M_isOfLand_0 : decode b_M_isOfLand 0 = .ok (.aload_n 1, 1) := by decide +kernel
theorem d_M_isOfLand_1 : decode b_M_isOfLand 1 = .ok (.getfield 158, 3) := by decide +kernel
theorem d_M_isOfLand_4 : decode b_M_isOfLand 4 = .ok (.iload_n 2, 1) := by decide +kernel
theorem d_M_isOfLand_5 : decode b_M_isOfLand 5 = .ok (.if_icmp .eq 18, 3) := by decide +kernel
theorem d_M_isOfLand_8 : decode b_M_isOfLand 8 = .ok (.aload_n 0, 1) := by decide +kernel
theorem d_M_isOfLand_9 : decode b_M_isOfLand 9 = .ok (.getfield 10, 3) := by decide +kernel
theorem d_M_isOfLand_12 : decode b_M_isOfLand 12 = .ok (.aload_n 1, 1) := by decide +kernel
theorem d_M_isOfLand_13 : decode b_M_isOfLand 13 = .ok (.getfield 158, 3) := by decide +kernel
theorem d_M_isOfLand_16 : decode b_M_isOfLand 16 = .ok (.iload_n 2, 1) := by decide +kernel
theorem d_M_isOfLand_17 : decode b_M_isOfLand 17 = .ok (.invokevirtual 68, 3) := by decide +kernel
theorem d_M_isOfLand_20 : decode b_M_isOfLand 20 = .ok (.ifCond .eq 15, 3) := by decide +kernel
theorem d_M_isOfLand_23 : decode b_M_isOfLand 23 = .ok (.aload_n 1, 1) := by decide +kernel
theorem d_M_isOfLand_24 : decode b_M_isOfLand 24 = .ok (.iload_n 2, 1) := by decide +kernel
theorem d_M_isOfLand_25 : decode b_M_isOfLand 25 = .ok (.invokevirtual 204, 3) := by decide +kernel
theorem d_M_isOfLand_28 : decode b_M_isOfLand 28 = .ok (.ifCond .ne 7, 3) := by decide +kernel
theorem d_M_isOfLand_31 : decode b_M_isOfLand 31 = .ok (.iconst 1, 1) := by decide +kernel
theorem d_M_isOfLand_32 : decode b_M_isOfLand 32 = .ok (.goto 4, 3) := by decide +kernel
theorem d_M_isOfLand_35 : decode b_M_isOfLand 35 = .ok (.iconst 0, 1) := by decide +kernel
theorem d_M_isOfLand_36 : decode b_M_isOfLand 36 = .ok (.ireturn, 1) := by decide +kernel
theorem d_M_keepWithPapers_0 : decode b_M_keepWithPapers 0 = .ok (.iconst 0, 1) := by decide +kernel
theorem d_M_keepWithPapers_1 : decode b_M_keepWithPapers 1 = .ok (.istore_n 2, 1) := by decide +kernel
theorem d_M_keepWithPapers_2 : decode b_M_keepWithPapers 2 = .ok (.iconst 0, 1) := by decide +kernel
theorem d_M_keepWithPapers_3 : decode b_M_keepWithPapers 3 = .ok (.istore_n 3, 1) := by decide +kernel
theorem d_M_keepWithPapers_4 : decode b_M_keepWithPapers 4 = .ok (.iload_n 3, 1) := by decide +kernel
theorem d_M_keepWithPapers_5 : decode b_M_keepWithPapers 5 = .ok (.iload_n 1, 1) := by decide +kernel
theorem d_M_keepWithPapers_6 : decode b_M_keepWithPapers 6 = .ok (.if_icmp .ge 53, 3) := by decide +kernel
theorem d_M_keepWithPapers_9 : decode b_M_keepWithPapers 9 = .ok (.aload_n 0, 1) := by decide +kernel
theorem d_M_keepWithPapers_10 : decode b_M_keepWithPapers 10 = .ok (.aload_n 0, 1) := by decide +kernel
theorem d_M_keepWithPapers_11 : decode b_M_keepWithPapers 11 = .ok (.getfield 39, 3) := by decide +kernel
theorem d_M_keepWithPapers_14 : decode b_M_keepWithPapers 14 = .ok (.iload_n 3, 1) := by decide +kernel
theorem d_M_keepWithPapers_15 : decode b_M_keepWithPapers 15 = .ok (.iaload, 1) := by decide +kernel
theorem d_M_keepWithPapers_16 : decode b_M_keepWithPapers 16 = .ok (.invokevirtual 111, 3) := by decide +kernel
theorem d_M_keepWithPapers_19 : decode b_M_keepWithPapers 19 = .ok (.astore 4, 2) := by decide +kernel
theorem d_M_keepWithPapers_21 : decode b_M_keepWithPapers 21 = .ok (.aload 4, 2) := by decide +kernel
theorem d_M_keepWithPapers_23 : decode b_M_keepWithPapers 23 = .ok (.ifnull 30, 3) := by decide +kernel
theorem d_M_keepWithPapers_26 : decode b_M_keepWithPapers 26 = .ok (.aload 4, 2) := by decide +kernel
theorem d_M_keepWithPapers_28 : decode b_M_keepWithPapers 28 = .ok (.aload_n 0, 1) := by decide +kernel
theorem d_M_keepWithPapers_29 : decode b_M_keepWithPapers 29 = .ok (.getfield 29, 3) := by decide +kernel
theorem d_M_keepWithPapers_32 : decode b_M_keepWithPapers 32 = .ok (.invokevirtual 207, 3) := by decide +kernel
theorem d_M_keepWithPapers_35 : decode b_M_keepWithPapers 35 = .ok (.ifCond .eq 18, 3) := by decide +kernel
theorem d_M_keepWithPapers_38 : decode b_M_keepWithPapers 38 = .ok (.aload_n 0, 1) := by decide +kernel
theorem d_M_keepWithPapers_39 : decode b_M_keepWithPapers 39 = .ok (.getfield 39, 3) := by decide +kernel
theorem d_M_keepWithPapers_42 : decode b_M_keepWithPapers 42 = .ok (.iload_n 2, 1) := by decide +kernel
theorem d_M_keepWithPapers_43 : decode b_M_keepWithPapers 43 = .ok (.aload_n 0, 1) := by decide +kernel
theorem d_M_keepWithPapers_44 : decode b_M_keepWithPapers 44 = .ok (.getfield 39, 3) := by decide +kernel
theorem d_M_keepWithPapers_47 : decode b_M_keepWithPapers 47 = .ok (.iload_n 3, 1) := by decide +kernel
theorem d_M_keepWithPapers_48 : decode b_M_keepWithPapers 48 = .ok (.iaload, 1) := by decide +kernel
theorem d_M_keepWithPapers_49 : decode b_M_keepWithPapers 49 = .ok (.iastore, 1) := by decide +kernel
theorem d_M_keepWithPapers_50 : decode b_M_keepWithPapers 50 = .ok (.iinc 2 1, 3) := by decide +kernel
theorem d_M_keepWithPapers_53 : decode b_M_keepWithPapers 53 = .ok (.iinc 3 1, 3) := by decide +kernel
theorem d_M_keepWithPapers_56 : decode b_M_keepWithPapers 56 = .ok (.goto (-52), 3) := by decide +kernel
theorem d_M_keepWithPapers_59 : decode b_M_keepWithPapers 59 = .ok (.iload_n 2, 1) := by decide +kernel
theorem d_M_keepWithPapers_60 : decode b_M_keepWithPapers 60 = .ok (.ireturn, 1) := by decide +kernel
theorem d_M_weighKinds_0 : decode b_M_weighKinds 0 = .ok (.iconst 0, 1) := by decide +kernel
theorem d_M_weighKinds_1 : decode b_M_weighKinds 1 = .ok (.istore_n 2, 1) := by decide +kernel
theorem d_M_weighKinds_2 : decode b_M_weighKinds 2 = .ok (.iload_n 2, 1) := by decide +kernel
theorem d_M_weighKinds_3 : decode b_M_weighKinds 3 = .ok (.bipush 8, 2) := by decide +kernel
theorem d_M_weighKinds_5 : decode b_M_weighKinds 5 = .ok (.if_icmp .ge 16, 3) := by decide +kernel
theorem d_M_weighKinds_8 : decode b_M_weighKinds 8 = .ok (.aload_n 0, 1) := by decide +kernel
theorem d_M_weighKinds_9 : decode b_M_weighKinds 9 = .ok (.getfield 42, 3) := by decide +kernel
theorem d_M_weighKinds_12 : decode b_M_weighKinds 12 = .ok (.iload_n 2, 1) := by decide +kernel
theorem d_M_weighKinds_13 : decode b_M_weighKinds 13 = .ok (.iconst 0, 1) := by decide +kernel
theorem d_M_weighKinds_14 : decode b_M_weighKinds 14 = .ok (.iastore, 1) := by decide +kernel
theorem d_M_weighKinds_15 : decode b_M_weighKinds 15 = .ok (.iinc 2 1, 3) := by decide +kernel
theorem d_M_weighKinds_18 : decode b_M_weighKinds 18 = .ok (.goto (-16), 3) := by decide +kernel
theorem d_M_weighKinds_21 : decode b_M_weighKinds 21 = .ok (.iconst 0, 1) := by decide +kernel
theorem d_M_weighKinds_22 : decode b_M_weighKinds 22 = .ok (.istore_n 2, 1) := by decide +kernel
theorem d_M_weighKinds_23 : decode b_M_weighKinds 23 = .ok (.iload_n 2, 1) := by decide +kernel
theorem d_M_weighKinds_24 : decode b_M_weighKinds 24 = .ok (.iload_n 1, 1) := by decide +kernel
theorem d_M_weighKinds_25 : decode b_M_weighKinds 25 = .ok (.if_icmp .ge 49, 3) := by decide +kernel
theorem d_M_weighKinds_28 : decode b_M_weighKinds 28 = .ok (.aload_n 0, 1) := by decide +kernel
theorem d_M_weighKinds_29 : decode b_M_weighKinds 29 = .ok (.aload_n 0, 1) := by decide +kernel
theorem d_M_weighKinds_30 : decode b_M_weighKinds 30 = .ok (.getfield 39, 3) := by decide +kernel
theorem d_M_weighKinds_33 : decode b_M_weighKinds 33 = .ok (.iload_n 2, 1) := by decide +kernel
theorem d_M_weighKinds_34 : decode b_M_weighKinds 34 = .ok (.iaload, 1) := by decide +kernel
theorem d_M_weighKinds_35 : decode b_M_weighKinds 35 = .ok (.invokevirtual 111, 3) := by decide +kernel
theorem d_M_weighKinds_38 : decode b_M_weighKinds 38 = .ok (.astore_n 3, 1) := by decide +kernel
theorem d_M_weighKinds_39 : decode b_M_weighKinds 39 = .ok (.aload_n 3, 1) := by decide +kernel
theorem d_M_weighKinds_40 : decode b_M_weighKinds 40 = .ok (.ifnull 28, 3) := by decide +kernel
theorem d_M_weighKinds_43 : decode b_M_weighKinds 43 = .ok (.aload_n 0, 1) := by decide +kernel
theorem d_M_weighKinds_44 : decode b_M_weighKinds 44 = .ok (.getfield 42, 3) := by decide +kernel
theorem d_M_weighKinds_47 : decode b_M_weighKinds 47 = .ok (.aload_n 3, 1) := by decide +kernel
theorem d_M_weighKinds_48 : decode b_M_weighKinds 48 = .ok (.getfield 164, 3) := by decide +kernel
theorem d_M_weighKinds_51 : decode b_M_weighKinds 51 = .ok (.aload_n 0, 1) := by decide +kernel
theorem d_M_weighKinds_52 : decode b_M_weighKinds 52 = .ok (.getfield 42, 3) := by decide +kernel
theorem d_M_weighKinds_55 : decode b_M_weighKinds 55 = .ok (.aload_n 3, 1) := by decide +kernel
theorem d_M_weighKinds_56 : decode b_M_weighKinds 56 = .ok (.getfield 164, 3) := by decide +kernel
theorem d_M_weighKinds_59 : decode b_M_weighKinds 59 = .ok (.iaload, 1) := by decide +kernel
theorem d_M_weighKinds_60 : decode b_M_weighKinds 60 = .ok (.aload_n 3, 1) := by decide +kernel
theorem d_M_weighKinds_61 : decode b_M_weighKinds 61 = .ok (.invokevirtual 210, 3) := by decide +kernel
theorem d_M_weighKinds_64 : decode b_M_weighKinds 64 = .ok (.invokestatic 105, 3) := by decide +kernel
theorem d_M_weighKinds_67 : decode b_M_weighKinds 67 = .ok (.iastore, 1) := by decide +kernel
theorem d_M_weighKinds_68 : decode b_M_weighKinds 68 = .ok (.iinc 2 1, 3) := by decide +kernel
theorem d_M_weighKinds_71 : decode b_M_weighKinds 71 = .ok (.goto (-48), 3) := by decide +kernel
theorem d_M_weighKinds_74 : decode b_M_weighKinds 74 = .ok (.return_, 1) := by decide +kernel
theorem d_M_listUnbeaten_0 : decode b_M_listUnbeaten 0 = .ok (.aload_n 0, 1) := by decide +kernel
theorem d_M_listUnbeaten_1 : decode b_M_listUnbeaten 1 = .ok (.iconst 0, 1) := by decide +kernel
theorem d_M_listUnbeaten_2 : decode b_M_listUnbeaten 2 = .ok (.putfield 36, 3) := by decide +kernel
theorem d_M_listUnbeaten_5 : decode b_M_listUnbeaten 5 = .ok (.iconst 0, 1) := by decide +kernel
theorem d_M_listUnbeaten_6 : decode b_M_listUnbeaten 6 = .ok (.istore_n 2, 1) := by decide +kernel
theorem d_M_listUnbeaten_7 : decode b_M_listUnbeaten 7 = .ok (.iload_n 2, 1) := by decide +kernel
theorem d_M_listUnbeaten_8 : decode b_M_listUnbeaten 8 = .ok (.bipush 8, 2) := by decide +kernel
theorem d_M_listUnbeaten_10 : decode b_M_listUnbeaten 10 = .ok (.if_icmp .ge 82, 3) := by decide +kernel
theorem d_M_listUnbeaten_13 : decode b_M_listUnbeaten 13 = .ok (.iconst 0, 1) := by decide +kernel
theorem d_M_listUnbeaten_14 : decode b_M_listUnbeaten 14 = .ok (.istore_n 3, 1) := by decide +kernel
theorem d_M_listUnbeaten_15 : decode b_M_listUnbeaten 15 = .ok (.iload_n 3, 1) := by decide +kernel
theorem d_M_listUnbeaten_16 : decode b_M_listUnbeaten 16 = .ok (.iload_n 1, 1) := by decide +kernel
theorem d_M_listUnbeaten_17 : decode b_M_listUnbeaten 17 = .ok (.if_icmp .ge 69, 3) := by decide +kernel
theorem d_M_listUnbeaten_20 : decode b_M_listUnbeaten 20 = .ok (.aload_n 0, 1) := by decide +kernel
theorem d_M_listUnbeaten_21 : decode b_M_listUnbeaten 21 = .ok (.aload_n 0, 1) := by decide +kernel
theorem d_M_listUnbeaten_22 : decode b_M_listUnbeaten 22 = .ok (.getfield 39, 3) := by decide +kernel
theorem d_M_listUnbeaten_25 : decode b_M_listUnbeaten 25 = .ok (.iload_n 3, 1) := by decide +kernel
theorem d_M_listUnbeaten_26 : decode b_M_listUnbeaten 26 = .ok (.iaload, 1) := by decide +kernel
theorem d_M_listUnbeaten_27 : decode b_M_listUnbeaten 27 = .ok (.invokevirtual 111, 3) := by decide +kernel
theorem d_M_listUnbeaten_30 : decode b_M_listUnbeaten 30 = .ok (.astore 4, 2) := by decide +kernel
theorem d_M_listUnbeaten_32 : decode b_M_listUnbeaten 32 = .ok (.aload 4, 2) := by decide +kernel
theorem d_M_listUnbeaten_34 : decode b_M_listUnbeaten 34 = .ok (.ifnull 46, 3) := by decide +kernel
theorem d_M_listUnbeaten_37 : decode b_M_listUnbeaten 37 = .ok (.aload 4, 2) := by decide +kernel
theorem d_M_listUnbeaten_39 : decode b_M_listUnbeaten 39 = .ok (.getfield 164, 3) := by decide +kernel
theorem d_M_listUnbeaten_42 : decode b_M_listUnbeaten 42 = .ok (.iload_n 2, 1) := by decide +kernel
theorem d_M_listUnbeaten_43 : decode b_M_listUnbeaten 43 = .ok (.if_icmp .ne 37, 3) := by decide +kernel
theorem d_M_listUnbeaten_46 : decode b_M_listUnbeaten 46 = .ok (.aload_n 0, 1) := by decide +kernel
theorem d_M_listUnbeaten_47 : decode b_M_listUnbeaten 47 = .ok (.aload 4, 2) := by decide +kernel
theorem d_M_listUnbeaten_49 : decode b_M_listUnbeaten 49 = .ok (.invokevirtual 214, 3) := by decide +kernel
theorem d_M_listUnbeaten_52 : decode b_M_listUnbeaten 52 = .ok (.ifCond .ne 28, 3) := by decide +kernel
theorem d_M_listUnbeaten_55 : decode b_M_listUnbeaten 55 = .ok (.aload_n 0, 1) := by decide +kernel
theorem d_M_listUnbeaten_56 : decode b_M_listUnbeaten 56 = .ok (.getfield 32, 3) := by decide +kernel
theorem d_M_listUnbeaten_59 : decode b_M_listUnbeaten 59 = .ok (.aload_n 0, 1) := by decide +kernel
theorem d_M_listUnbeaten_60 : decode b_M_listUnbeaten 60 = .ok (.getfield 36, 3) := by decide +kernel
theorem d_M_listUnbeaten_63 : decode b_M_listUnbeaten 63 = .ok (.aload_n 0, 1) := by decide +kernel
theorem d_M_listUnbeaten_64 : decode b_M_listUnbeaten 64 = .ok (.getfield 39, 3) := by decide +kernel
theorem d_M_listUnbeaten_67 : decode b_M_listUnbeaten 67 = .ok (.iload_n 3, 1) := by decide +kernel
theorem d_M_listUnbeaten_68 : decode b_M_listUnbeaten 68 = .ok (.iaload, 1) := by decide +kernel
theorem d_M_listUnbeaten_69 : decode b_M_listUnbeaten 69 = .ok (.iastore, 1) := by decide +kernel
theorem d_M_listUnbeaten_70 : decode b_M_listUnbeaten 70 = .ok (.aload_n 0, 1) := by decide +kernel
theorem d_M_listUnbeaten_71 : decode b_M_listUnbeaten 71 = .ok (.dup, 1) := by decide +kernel
theorem d_M_listUnbeaten_72 : decode b_M_listUnbeaten 72 = .ok (.getfield 36, 3) := by decide +kernel
theorem d_M_listUnbeaten_75 : decode b_M_listUnbeaten 75 = .ok (.iconst 1, 1) := by decide +kernel
theorem d_M_listUnbeaten_76 : decode b_M_listUnbeaten 76 = .ok (.iadd, 1) := by decide +kernel
theorem d_M_listUnbeaten_77 : decode b_M_listUnbeaten 77 = .ok (.putfield 36, 3) := by decide +kernel
theorem d_M_listUnbeaten_80 : decode b_M_listUnbeaten 80 = .ok (.iinc 3 1, 3) := by decide +kernel
theorem d_M_listUnbeaten_83 : decode b_M_listUnbeaten 83 = .ok (.goto (-68), 3) := by decide +kernel
theorem d_M_listUnbeaten_86 : decode b_M_listUnbeaten 86 = .ok (.iinc 2 1, 3) := by decide +kernel
theorem d_M_listUnbeaten_89 : decode b_M_listUnbeaten 89 = .ok (.goto (-82), 3) := by decide +kernel
theorem d_M_listUnbeaten_92 : decode b_M_listUnbeaten 92 = .ok (.return_, 1) := by decide +kernel
theorem d_M_isBeaten_0 : decode b_M_isBeaten 0 = .ok (.aload_n 1, 1) := by decide +kernel
theorem d_M_isBeaten_1 : decode b_M_isBeaten 1 = .ok (.getfield 164, 3) := by decide +kernel
theorem d_M_isBeaten_4 : decode b_M_isBeaten 4 = .ok (.iconst 4, 1) := by decide +kernel
theorem d_M_isBeaten_5 : decode b_M_isBeaten 5 = .ok (.if_icmp .ge 23, 3) := by decide +kernel
theorem d_M_isBeaten_8 : decode b_M_isBeaten 8 = .ok (.aload_n 1, 1) := by decide +kernel
theorem d_M_isBeaten_9 : decode b_M_isBeaten 9 = .ok (.invokevirtual 210, 3) := by decide +kernel
theorem d_M_isBeaten_12 : decode b_M_isBeaten 12 = .ok (.aload_n 0, 1) := by decide +kernel
theorem d_M_isBeaten_13 : decode b_M_isBeaten 13 = .ok (.getfield 42, 3) := by decide +kernel
theorem d_M_isBeaten_16 : decode b_M_isBeaten 16 = .ok (.aload_n 1, 1) := by decide +kernel
theorem d_M_isBeaten_17 : decode b_M_isBeaten 17 = .ok (.getfield 164, 3) := by decide +kernel
theorem d_M_isBeaten_20 : decode b_M_isBeaten 20 = .ok (.iaload, 1) := by decide +kernel
theorem d_M_isBeaten_21 : decode b_M_isBeaten 21 = .ok (.if_icmp .ge 7, 3) := by decide +kernel
theorem d_M_isBeaten_24 : decode b_M_isBeaten 24 = .ok (.iconst 1, 1) := by decide +kernel
theorem d_M_isBeaten_25 : decode b_M_isBeaten 25 = .ok (.goto 4, 3) := by decide +kernel
theorem d_M_isBeaten_28 : decode b_M_isBeaten 28 = .ok (.iconst 0, 1) := by decide +kernel
theorem d_M_isBeaten_29 : decode b_M_isBeaten 29 = .ok (.ireturn, 1) := by decide +kernel
theorem d_M_isLand_0 : decode b_M_isLand 0 = .ok (.iload_n 0, 1) := by decide +kernel
theorem d_M_isLand_1 : decode b_M_isLand 1 = .ok (.ifCond .lt 13, 3) := by decide +kernel
theorem d_M_isLand_4 : decode b_M_isLand 4 = .ok (.iload_n 0, 1) := by decide +kernel
theorem d_M_isLand_5 : decode b_M_isLand 5 = .ok (.bipush 16, 2) := by decide +kernel
theorem d_M_isLand_7 : decode b_M_isLand 7 = .ok (.if_icmp .ge 7, 3) := by decide +kernel
theorem d_M_isLand_10 : decode b_M_isLand 10 = .ok (.iconst 1, 1) := by decide +kernel
theorem d_M_isLand_11 : decode b_M_isLand 11 = .ok (.goto 4, 3) := by decide +kernel
theorem d_M_isLand_14 : decode b_M_isLand 14 = .ok (.iconst 0, 1) := by decide +kernel
theorem d_M_isLand_15 : decode b_M_isLand 15 = .ok (.ireturn, 1) := by decide +kernel
theorem d_M_isGroup_0 : decode b_M_isGroup 0 = .ok (.iload_n 0, 1) := by decide +kernel
theorem d_M_isGroup_1 : decode b_M_isGroup 1 = .ok (.bipush 16, 2) := by decide +kernel
theorem d_M_isGroup_3 : decode b_M_isGroup 3 = .ok (.if_icmp .lt 13, 3) := by decide +kernel
theorem d_M_isGroup_6 : decode b_M_isGroup 6 = .ok (.iload_n 0, 1) := by decide +kernel
theorem d_M_isGroup_7 : decode b_M_isGroup 7 = .ok (.bipush 24, 2) := by decide +kernel
theorem d_M_isGroup_9 : decode b_M_isGroup 9 = .ok (.if_icmp .ge 7, 3) := by decide +kernel
theorem d_M_isGroup_12 : decode b_M_isGroup 12 = .ok (.iconst 1, 1) := by decide +kernel
theorem d_M_isGroup_13 : decode b_M_isGroup 13 = .ok (.goto 4, 3) := by decide +kernel
theorem d_M_isGroup_16 : decode b_M_isGroup 16 = .ok (.iconst 0, 1) := by decide +kernel
theorem d_M_isGroup_17 : decode b_M_isGroup 17 = .ok (.ireturn, 1) := by decide +kernel
theorem d_M_isPlace_0 : decode b_M_isPlace 0 = .ok (.iload_n 0, 1) := by decide +kernel
theorem d_M_isPlace_1 : decode b_M_isPlace 1 = .ok (.invokestatic 49, 3) := by decide +kernel
theorem d_M_isPlace_4 : decode b_M_isPlace 4 = .ok (.ifCond .ne 16, 3) := by decide +kernel
theorem d_M_isPlace_7 : decode b_M_isPlace 7 = .ok (.iload_n 0, 1) := by decide +kernel
theorem d_M_isPlace_8 : decode b_M_isPlace 8 = .ok (.invokestatic 45, 3) := by decide +kernel
theorem d_M_isPlace_11 : decode b_M_isPlace 11 = .ok (.ifCond .ne 9, 3) := by decide +kernel
theorem d_M_isPlace_14 : decode b_M_isPlace 14 = .ok (.iload_n 0, 1) := by decide +kernel
theorem d_M_isPlace_15 : decode b_M_isPlace 15 = .ok (.bipush 31, 2) := by decide +kernel
theorem d_M_isPlace_17 : decode b_M_isPlace 17 = .ok (.if_icmp .ne 7, 3) := by decide +kernel
theorem d_M_isPlace_20 : decode b_M_isPlace 20 = .ok (.iconst 1, 1) := by decide +kernel
theorem d_M_isPlace_21 : decode b_M_isPlace 21 = .ok (.goto 4, 3) := by decide +kernel
theorem d_M_isPlace_24 : decode b_M_isPlace 24 = .ok (.iconst 0, 1) := by decide +kernel
theorem d_M_isPlace_25 : decode b_M_isPlace 25 = .ok (.ireturn, 1) := by decide +kernel
theorem d_M_isDay_0 : decode b_M_isDay 0 = .ok (.iload_n 0, 1) := by decide +kernel
theorem d_M_isDay_1 : decode b_M_isDay 1 = .ok (.ifCond .lt 14, 3) := by decide +kernel
theorem d_M_isDay_4 : decode b_M_isDay 4 = .ok (.iload_n 0, 1) := by decide +kernel
theorem d_M_isDay_5 : decode b_M_isDay 5 = .ok (.sipush 10000, 3) := by decide +kernel
theorem d_M_isDay_8 : decode b_M_isDay 8 = .ok (.if_icmp .gt 7, 3) := by decide +kernel
theorem d_M_isDay_11 : decode b_M_isDay 11 = .ok (.iconst 1, 1) := by decide +kernel
theorem d_M_isDay_12 : decode b_M_isDay 12 = .ok (.goto 4, 3) := by decide +kernel
theorem d_M_isDay_15 : decode b_M_isDay 15 = .ok (.iconst 0, 1) := by decide +kernel
theorem d_M_isDay_16 : decode b_M_isDay 16 = .ok (.ireturn, 1) := by decide +kernel
theorem d_M_isLastDay_0 : decode b_M_isLastDay 0 = .ok (.iload_n 0, 1) := by decide +kernel
theorem d_M_isLastDay_1 : decode b_M_isLastDay 1 = .ok (.invokestatic 83, 3) := by decide +kernel
theorem d_M_isLastDay_4 : decode b_M_isLastDay 4 = .ok (.ifCond .ne 10, 3) := by decide +kernel
theorem d_M_isLastDay_7 : decode b_M_isLastDay 7 = .ok (.iload_n 0, 1) := by decide +kernel
theorem d_M_isLastDay_8 : decode b_M_isLastDay 8 = .ok (.sipush 20000, 3) := by decide +kernel
theorem d_M_isLastDay_11 : decode b_M_isLastDay 11 = .ok (.if_icmp .ne 7, 3) := by decide +kernel
theorem d_M_isLastDay_14 : decode b_M_isLastDay 14 = .ok (.iconst 1, 1) := by decide +kernel
theorem d_M_isLastDay_15 : decode b_M_isLastDay 15 = .ok (.goto 4, 3) := by decide +kernel
theorem d_M_isLastDay_18 : decode b_M_isLastDay 18 = .ok (.iconst 0, 1) := by decide +kernel
theorem d_M_isLastDay_19 : decode b_M_isLastDay 19 = .ok (.ireturn, 1) := by decide +kernel
theorem d_M_levelOf_0 : decode b_M_levelOf 0 = .ok (.iload_n 0, 1) := by decide +kernel
theorem d_M_levelOf_1 : decode b_M_levelOf 1 = .ok (.bipush 10, 2) := by decide +kernel
theorem d_M_levelOf_3 : decode b_M_levelOf 3 = .ok (.if_icmp .lt 11, 3) := by decide +kernel
theorem d_M_levelOf_6 : decode b_M_levelOf 6 = .ok (.iload_n 0, 1) := by decide +kernel
theorem d_M_levelOf_7 : decode b_M_levelOf 7 = .ok (.bipush 99, 2) := by decide +kernel
theorem d_M_levelOf_9 : decode b_M_levelOf 9 = .ok (.if_icmp .gt 5, 3) := by decide +kernel
theorem d_M_levelOf_12 : decode b_M_levelOf 12 = .ok (.iconst 1, 1) := by decide +kernel
theorem d_M_levelOf_13 : decode b_M_levelOf 13 = .ok (.ireturn, 1) := by decide +kernel
theorem d_M_levelOf_14 : decode b_M_levelOf 14 = .ok (.iload_n 0, 1) := by decide +kernel
theorem d_M_levelOf_15 : decode b_M_levelOf 15 = .ok (.sipush 1000, 3) := by decide +kernel
theorem d_M_levelOf_18 : decode b_M_levelOf 18 = .ok (.if_icmp .lt 12, 3) := by decide +kernel
theorem d_M_levelOf_21 : decode b_M_levelOf 21 = .ok (.iload_n 0, 1) := by decide +kernel
theorem d_M_levelOf_22 : decode b_M_levelOf 22 = .ok (.sipush 9999, 3) := by decide +kernel
theorem d_M_levelOf_25 : decode b_M_levelOf 25 = .ok (.if_icmp .gt 5, 3) := by decide +kernel
theorem d_M_levelOf_28 : decode b_M_levelOf 28 = .ok (.iconst 2, 1) := by decide +kernel
theorem d_M_levelOf_29 : decode b_M_levelOf 29 = .ok (.ireturn, 1) := by decide +kernel
theorem d_M_levelOf_30 : decode b_M_levelOf 30 = .ok (.iload_n 0, 1) := by decide +kernel
theorem d_M_levelOf_31 : decode b_M_levelOf 31 = .ok (.ldc 218, 2) := by decide +kernel
theorem d_M_levelOf_33 : decode b_M_levelOf 33 = .ok (.if_icmp .lt 13, 3) := by decide +kernel
theorem d_M_levelOf_36 : decode b_M_levelOf 36 = .ok (.iload_n 0, 1) := by decide +kernel
theorem d_M_levelOf_37 : decode b_M_levelOf 37 = .ok (.ldc 219, 2) := by decide +kernel
theorem d_M_levelOf_39 : decode b_M_levelOf 39 = .ok (.if_icmp .gt 7, 3) := by decide +kernel
theorem d_M_levelOf_42 : decode b_M_levelOf 42 = .ok (.iconst 3, 1) := by decide +kernel
theorem d_M_levelOf_43 : decode b_M_levelOf 43 = .ok (.goto 4, 3) := by decide +kernel
theorem d_M_levelOf_46 : decode b_M_levelOf 46 = .ok (.iconst 0, 1) := by decide +kernel
theorem d_M_levelOf_47 : decode b_M_levelOf 47 = .ok (.ireturn, 1) := by decide +kernel
theorem d_M_isUnder_0 : decode b_M_isUnder 0 = .ok (.iload_n 0, 1) := by decide +kernel
theorem d_M_isUnder_1 : decode b_M_isUnder 1 = .ok (.iload_n 1, 1) := by decide +kernel
theorem d_M_isUnder_2 : decode b_M_isUnder 2 = .ok (.if_icmp .eq 20, 3) := by decide +kernel
theorem d_M_isUnder_5 : decode b_M_isUnder 5 = .ok (.iload_n 0, 1) := by decide +kernel
theorem d_M_isUnder_6 : decode b_M_isUnder 6 = .ok (.bipush 100, 2) := by decide +kernel
theorem d_M_isUnder_8 : decode b_M_isUnder 8 = .ok (.idiv, 1) := by decide +kernel
theorem d_M_isUnder_9 : decode b_M_isUnder 9 = .ok (.iload_n 1, 1) := by decide +kernel
theorem d_M_isUnder_10 : decode b_M_isUnder 10 = .ok (.if_icmp .eq 12, 3) := by decide +kernel
theorem d_M_isUnder_13 : decode b_M_isUnder 13 = .ok (.iload_n 0, 1) := by decide +kernel
theorem d_M_isUnder_14 : decode b_M_isUnder 14 = .ok (.sipush 10000, 3) := by decide +kernel
theorem d_M_isUnder_17 : decode b_M_isUnder 17 = .ok (.idiv, 1) := by decide +kernel
theorem d_M_isUnder_18 : decode b_M_isUnder 18 = .ok (.iload_n 1, 1) := by decide +kernel
theorem d_M_isUnder_19 : decode b_M_isUnder 19 = .ok (.if_icmp .ne 7, 3) := by decide +kernel
theorem d_M_isUnder_22 : decode b_M_isUnder 22 = .ok (.iconst 1, 1) := by decide +kernel
theorem d_M_isUnder_23 : decode b_M_isUnder 23 = .ok (.goto 4, 3) := by decide +kernel
theorem d_M_isUnder_26 : decode b_M_isUnder 26 = .ok (.iconst 0, 1) := by decide +kernel
theorem d_M_isUnder_27 : decode b_M_isUnder 27 = .ok (.ireturn, 1) := by decide +kernel
theorem d_M_hasBit_0 : decode b_M_hasBit 0 = .ok (.iload_n 0, 1) := by decide +kernel
theorem d_M_hasBit_1 : decode b_M_hasBit 1 = .ok (.iload_n 1, 1) := by decide +kernel
theorem d_M_hasBit_2 : decode b_M_hasBit 2 = .ok (.iushr, 1) := by decide +kernel
theorem d_M_hasBit_3 : decode b_M_hasBit 3 = .ok (.iconst 1, 1) := by decide +kernel
theorem d_M_hasBit_4 : decode b_M_hasBit 4 = .ok (.iand, 1) := by decide +kernel
theorem d_M_hasBit_5 : decode b_M_hasBit 5 = .ok (.ifCond .eq 7, 3) := by decide +kernel
theorem d_M_hasBit_8 : decode b_M_hasBit 8 = .ok (.iconst 1, 1) := by decide +kernel
theorem d_M_hasBit_9 : decode b_M_hasBit 9 = .ok (.goto 4, 3) := by decide +kernel
theorem d_M_hasBit_12 : decode b_M_hasBit 12 = .ok (.iconst 0, 1) := by decide +kernel
theorem d_M_hasBit_13 : decode b_M_hasBit 13 = .ok (.ireturn, 1) := by decide +kernel
theorem d_G_init_0 : decode b_G_init 0 = .ok (.aload_n 0, 1) := by decide +kernel
theorem d_G_init_1 : decode b_G_init 1 = .ok (.invokespecial 3, 3) := by decide +kernel
theorem d_G_init_4 : decode b_G_init 4 = .ok (.aload_n 0, 1) := by decide +kernel
theorem d_G_init_5 : decode b_G_init 5 = .ok (.bipush 8, 2) := by decide +kernel
theorem d_G_init_7 : decode b_G_init 7 = .ok (.newarray .int, 2) := by decide +kernel
theorem d_G_init_9 : decode b_G_init 9 = .ok (.putfield 9, 3) := by decide +kernel
theorem d_G_init_12 : decode b_G_init 12 = .ok (.aload_n 0, 1) := by decide +kernel
theorem d_G_init_13 : decode b_G_init 13 = .ok (.bipush 8, 2) := by decide +kernel
theorem d_G_init_15 : decode b_G_init 15 = .ok (.newarray .int, 2) := by decide +kernel
theorem d_G_init_17 : decode b_G_init 17 = .ok (.putfield 15, 3) := by decide +kernel
theorem d_G_init_20 : decode b_G_init 20 = .ok (.return_, 1) := by decide +kernel
theorem d_G_join_0 : decode b_G_join 0 = .ok (.iload_n 1, 1) := by decide +kernel
theorem d_G_join_1 : decode b_G_join 1 = .ok (.invokestatic 18, 3) := by decide +kernel
theorem d_G_join_4 : decode b_G_join 4 = .ok (.ifCond .eq 28, 3) := by decide +kernel
theorem d_G_join_7 : decode b_G_join 7 = .ok (.aload_n 0, 1) := by decide +kernel
theorem d_G_join_8 : decode b_G_join 8 = .ok (.getfield 9, 3) := by decide +kernel
theorem d_G_join_11 : decode b_G_join 11 = .ok (.iload_n 1, 1) := by decide +kernel
theorem d_G_join_12 : decode b_G_join 12 = .ok (.bipush 16, 2) := by decide +kernel
theorem d_G_join_14 : decode b_G_join 14 = .ok (.isub, 1) := by decide +kernel
theorem d_G_join_15 : decode b_G_join 15 = .ok (.iaload, 1) := by decide +kernel
theorem d_G_join_16 : decode b_G_join 16 = .ok (.iload_n 2, 1) := by decide +kernel
theorem d_G_join_17 : decode b_G_join 17 = .ok (.invokestatic 22, 3) := by decide +kernel
theorem d_G_join_20 : decode b_G_join 20 = .ok (.ifCond .ne 12, 3) := by decide +kernel
theorem d_G_join_23 : decode b_G_join 23 = .ok (.aload_n 0, 1) := by decide +kernel
theorem d_G_join_24 : decode b_G_join 24 = .ok (.iload_n 1, 1) := by decide +kernel
theorem d_G_join_25 : decode b_G_join 25 = .ok (.iload_n 2, 1) := by decide +kernel
theorem d_G_join_26 : decode b_G_join 26 = .ok (.invokevirtual 26, 3) := by decide +kernel
theorem d_G_join_29 : decode b_G_join 29 = .ok (.ifCond .eq 5, 3) := by decide +kernel
theorem d_G_join_32 : decode b_G_join 32 = .ok (.iconst 0, 1) := by decide +kernel
theorem d_G_join_33 : decode b_G_join 33 = .ok (.ireturn, 1) := by decide +kernel
theorem d_G_join_34 : decode b_G_join 34 = .ok (.aload_n 0, 1) := by decide +kernel
theorem d_G_join_35 : decode b_G_join 35 = .ok (.getfield 9, 3) := by decide +kernel
theorem d_G_join_38 : decode b_G_join 38 = .ok (.iload_n 1, 1) := by decide +kernel
theorem d_G_join_39 : decode b_G_join 39 = .ok (.bipush 16, 2) := by decide +kernel
theorem d_G_join_41 : decode b_G_join 41 = .ok (.isub, 1) := by decide +kernel
theorem d_G_join_42 : decode b_G_join 42 = .ok (.dup2, 1) := by decide +kernel
theorem d_G_join_43 : decode b_G_join 43 = .ok (.iaload, 1) := by decide +kernel
theorem d_G_join_44 : decode b_G_join 44 = .ok (.iconst 1, 1) := by decide +kernel
theorem d_G_join_45 : decode b_G_join 45 = .ok (.iload_n 2, 1) := by decide +kernel
theorem d_G_join_46 : decode b_G_join 46 = .ok (.ishl, 1) := by decide +kernel
theorem d_G_join_47 : decode b_G_join 47 = .ok (.ior, 1) := by decide +kernel
theorem d_G_join_48 : decode b_G_join 48 = .ok (.iastore, 1) := by decide +kernel
theorem d_G_join_49 : decode b_G_join 49 = .ok (.iconst 1, 1) := by decide +kernel
theorem d_G_join_50 : decode b_G_join 50 = .ok (.iload_n 2, 1) := by decide +kernel
theorem d_G_join_51 : decode b_G_join 51 = .ok (.ishl, 1) := by decide +kernel
theorem d_G_join_52 : decode b_G_join 52 = .ok (.aload_n 0, 1) := by decide +kernel
theorem d_G_join_53 : decode b_G_join 53 = .ok (.iload_n 2, 1) := by decide +kernel
theorem d_G_join_54 : decode b_G_join 54 = .ok (.invokevirtual 29, 3) := by decide +kernel
theorem d_G_join_57 : decode b_G_join 57 = .ok (.ior, 1) := by decide +kernel
theorem d_G_join_58 : decode b_G_join 58 = .ok (.istore_n 3, 1) := by decide +kernel
theorem d_G_join_59 : decode b_G_join 59 = .ok (.iconst 0, 1) := by decide +kernel
theorem d_G_join_60 : decode b_G_join 60 = .ok (.istore 4, 2) := by decide +kernel
theorem d_G_join_62 : decode b_G_join 62 = .ok (.iload 4, 2) := by decide +kernel
theorem d_G_join_64 : decode b_G_join 64 = .ok (.bipush 8, 2) := by decide +kernel
theorem d_G_join_66 : decode b_G_join 66 = .ok (.if_icmp .ge 43, 3) := by decide +kernel
theorem d_G_join_69 : decode b_G_join 69 = .ok (.iload 4, 2) := by decide +kernel
theorem d_G_join_71 : decode b_G_join 71 = .ok (.bipush 16, 2) := by decide +kernel
theorem d_G_join_73 : decode b_G_join 73 = .ok (.iadd, 1) := by decide +kernel
theorem d_G_join_74 : decode b_G_join 74 = .ok (.iload_n 1, 1) := by decide +kernel
theorem d_G_join_75 : decode b_G_join 75 = .ok (.if_icmp .eq 17, 3) := by decide +kernel
theorem d_G_join_78 : decode b_G_join 78 = .ok (.aload_n 0, 1) := by decide +kernel
theorem d_G_join_79 : decode b_G_join 79 = .ok (.getfield 15, 3) := by decide +kernel
theorem d_G_join_82 : decode b_G_join 82 = .ok (.iload 4, 2) := by decide +kernel
theorem d_G_join_84 : decode b_G_join 84 = .ok (.iaload, 1) := by decide +kernel
theorem d_G_join_85 : decode b_G_join 85 = .ok (.iload_n 1, 1) := by decide +kernel
theorem d_G_join_86 : decode b_G_join 86 = .ok (.invokestatic 22, 3) := by decide +kernel
theorem d_G_join_89 : decode b_G_join 89 = .ok (.ifCond .eq 14, 3) := by decide +kernel
theorem d_G_join_92 : decode b_G_join 92 = .ok (.aload_n 0, 1) := by decide +kernel
theorem d_G_join_93 : decode b_G_join 93 = .ok (.getfield 15, 3) := by decide +kernel
theorem d_G_join_96 : decode b_G_join 96 = .ok (.iload 4, 2) := by decide +kernel
theorem d_G_join_98 : decode b_G_join 98 = .ok (.dup2, 1) := by decide +kernel
theorem d_G_join_99 : decode b_G_join 99 = .ok (.iaload, 1) := by decide +kernel
theorem d_G_join_100 : decode b_G_join 100 = .ok (.iload_n 3, 1) := by decide +kernel
theorem d_G_join_101 : decode b_G_join 101 = .ok (.ior, 1) := by decide +kernel
theorem d_G_join_102 : decode b_G_join 102 = .ok (.iastore, 1) := by decide +kernel
theorem d_G_join_103 : decode b_G_join 103 = .ok (.iinc 4 1, 3) := by decide +kernel
theorem d_G_join_106 : decode b_G_join 106 = .ok (.goto (-44), 3) := by decide +kernel
theorem d_G_join_109 : decode b_G_join 109 = .ok (.iconst 1, 1) := by decide +kernel
theorem d_G_join_110 : decode b_G_join 110 = .ok (.ireturn, 1) := by decide +kernel
theorem d_G_wouldRing_0 : decode b_G_wouldRing 0 = .ok (.iload_n 2, 1) := by decide +kernel
theorem d_G_wouldRing_1 : decode b_G_wouldRing 1 = .ok (.iload_n 1, 1) := by decide +kernel
theorem d_G_wouldRing_2 : decode b_G_wouldRing 2 = .ok (.if_icmp .eq 15, 3) := by decide +kernel
theorem d_G_wouldRing_5 : decode b_G_wouldRing 5 = .ok (.aload_n 0, 1) := by decide +kernel
theorem d_G_wouldRing_6 : decode b_G_wouldRing 6 = .ok (.iload_n 2, 1) := by decide +kernel
theorem d_G_wouldRing_7 : decode b_G_wouldRing 7 = .ok (.invokevirtual 29, 3) := by decide +kernel
theorem d_G_wouldRing_10 : decode b_G_wouldRing 10 = .ok (.iload_n 1, 1) := by decide +kernel
theorem d_G_wouldRing_11 : decode b_G_wouldRing 11 = .ok (.invokestatic 22, 3) := by decide +kernel
theorem d_G_wouldRing_14 : decode b_G_wouldRing 14 = .ok (.ifCond .eq 7, 3) := by decide +kernel
theorem d_G_wouldRing_17 : decode b_G_wouldRing 17 = .ok (.iconst 1, 1) := by decide +kernel
theorem d_G_wouldRing_18 : decode b_G_wouldRing 18 = .ok (.goto 4, 3) := by decide +kernel
theorem d_G_wouldRing_21 : decode b_G_wouldRing 21 = .ok (.iconst 0, 1) := by decide +kernel
theorem d_G_wouldRing_22 : decode b_G_wouldRing 22 = .ok (.ireturn, 1) := by decide +kernel
theorem d_G_reaches_0 : decode b_G_reaches 0 = .ok (.iload_n 1, 1) := by decide +kernel
theorem d_G_reaches_1 : decode b_G_reaches 1 = .ok (.bipush 31, 2) := by decide +kernel
theorem d_G_reaches_3 : decode b_G_reaches 3 = .ok (.if_icmp .eq 15, 3) := by decide +kernel
theorem d_G_reaches_6 : decode b_G_reaches 6 = .ok (.aload_n 0, 1) := by decide +kernel
theorem d_G_reaches_7 : decode b_G_reaches 7 = .ok (.iload_n 1, 1) := by decide +kernel
theorem d_G_reaches_8 : decode b_G_reaches 8 = .ok (.invokevirtual 29, 3) := by decide +kernel
theorem d_G_reaches_11 : decode b_G_reaches 11 = .ok (.iload_n 2, 1) := by decide +kernel
theorem d_G_reaches_12 : decode b_G_reaches 12 = .ok (.invokestatic 22, 3) := by decide +kernel
theorem d_G_reaches_15 : decode b_G_reaches 15 = .ok (.ifCond .eq 7, 3) := by decide +kernel
theorem d_G_reaches_18 : decode b_G_reaches 18 = .ok (.iconst 1, 1) := by decide +kernel
theorem d_G_reaches_19 : decode b_G_reaches 19 = .ok (.goto 4, 3) := by decide +kernel
theorem d_G_reaches_22 : decode b_G_reaches 22 = .ok (.iconst 0, 1) := by decide +kernel
theorem d_G_reaches_23 : decode b_G_reaches 23 = .ok (.ireturn, 1) := by decide +kernel
theorem d_G_landsIn_0 : decode b_G_landsIn 0 = .ok (.aload_n 0, 1) := by decide +kernel
theorem d_G_landsIn_1 : decode b_G_landsIn 1 = .ok (.iload_n 1, 1) := by decide +kernel
theorem d_G_landsIn_2 : decode b_G_landsIn 2 = .ok (.invokevirtual 29, 3) := by decide +kernel
theorem d_G_landsIn_5 : decode b_G_landsIn 5 = .ok (.ldc 33, 2) := by decide +kernel
theorem d_G_landsIn_7 : decode b_G_landsIn 7 = .ok (.iand, 1) := by decide +kernel
theorem d_G_landsIn_8 : decode b_G_landsIn 8 = .ok (.invokestatic 34, 3) := by decide +kernel
theorem d_G_landsIn_11 : decode b_G_landsIn 11 = .ok (.ireturn, 1) := by decide +kernel
theorem d_G_insideOf_0 : decode b_G_insideOf 0 = .ok (.iload_n 1, 1) := by decide +kernel
theorem d_G_insideOf_1 : decode b_G_insideOf 1 = .ok (.invokestatic 18, 3) := by decide +kernel
theorem d_G_insideOf_4 : decode b_G_insideOf 4 = .ok (.ifCond .eq 15, 3) := by decide +kernel
theorem d_G_insideOf_7 : decode b_G_insideOf 7 = .ok (.aload_n 0, 1) := by decide +kernel
theorem d_G_insideOf_8 : decode b_G_insideOf 8 = .ok (.getfield 15, 3) := by decide +kernel
theorem d_G_insideOf_11 : decode b_G_insideOf 11 = .ok (.iload_n 1, 1) := by decide +kernel
theorem d_G_insideOf_12 : decode b_G_insideOf 12 = .ok (.bipush 16, 2) := by decide +kernel
theorem d_G_insideOf_14 : decode b_G_insideOf 14 = .ok (.isub, 1) := by decide +kernel
theorem d_G_insideOf_15 : decode b_G_insideOf 15 = .ok (.iaload, 1) := by decide +kernel
theorem d_G_insideOf_16 : decode b_G_insideOf 16 = .ok (.goto 4, 3) := by decide +kernel
theorem d_G_insideOf_19 : decode b_G_insideOf 19 = .ok (.iconst 0, 1) := by decide +kernel
theorem d_G_insideOf_20 : decode b_G_insideOf 20 = .ok (.ireturn, 1) := by decide +kernel
theorem d_R_init_0 : decode b_R_init 0 = .ok (.aload_n 0, 1) := by decide +kernel
theorem d_R_init_1 : decode b_R_init 1 = .ok (.invokespecial 3, 3) := by decide +kernel
theorem d_R_init_4 : decode b_R_init 4 = .ok (.aload_n 0, 1) := by decide +kernel
theorem d_R_init_5 : decode b_R_init 5 = .ok (.iload_n 1, 1) := by decide +kernel
theorem d_R_init_6 : decode b_R_init 6 = .ok (.putfield 9, 3) := by decide +kernel
theorem d_R_init_9 : decode b_R_init 9 = .ok (.aload_n 0, 1) := by decide +kernel
theorem d_R_init_10 : decode b_R_init 10 = .ok (.iload_n 2, 1) := by decide +kernel
theorem d_R_init_11 : decode b_R_init 11 = .ok (.putfield 15, 3) := by decide +kernel
theorem d_R_init_14 : decode b_R_init 14 = .ok (.aload_n 0, 1) := by decide +kernel
theorem d_R_init_15 : decode b_R_init 15 = .ok (.iload_n 3, 1) := by decide +kernel
theorem d_R_init_16 : decode b_R_init 16 = .ok (.putfield 18, 3) := by decide +kernel
theorem d_R_init_19 : decode b_R_init 19 = .ok (.aload_n 0, 1) := by decide +kernel
theorem d_R_init_20 : decode b_R_init 20 = .ok (.iload 5, 2) := by decide +kernel
theorem d_R_init_22 : decode b_R_init 22 = .ok (.putfield 21, 3) := by decide +kernel
theorem d_R_init_25 : decode b_R_init 25 = .ok (.aload_n 0, 1) := by decide +kernel
theorem d_R_init_26 : decode b_R_init 26 = .ok (.iload 6, 2) := by decide +kernel
theorem d_R_init_28 : decode b_R_init 28 = .ok (.putfield 24, 3) := by decide +kernel
theorem d_R_init_31 : decode b_R_init 31 = .ok (.aload_n 0, 1) := by decide +kernel
theorem d_R_init_32 : decode b_R_init 32 = .ok (.iload 7, 2) := by decide +kernel
theorem d_R_init_34 : decode b_R_init 34 = .ok (.putfield 27, 3) := by decide +kernel
theorem d_R_init_37 : decode b_R_init 37 = .ok (.aload_n 0, 1) := by decide +kernel
theorem d_R_init_38 : decode b_R_init 38 = .ok (.iconst 0, 1) := by decide +kernel
theorem d_R_init_39 : decode b_R_init 39 = .ok (.putfield 30, 3) := by decide +kernel
theorem d_R_init_42 : decode b_R_init 42 = .ok (.aload_n 0, 1) := by decide +kernel
theorem d_R_init_43 : decode b_R_init 43 = .ok (.iconst 0, 1) := by decide +kernel
theorem d_R_init_44 : decode b_R_init 44 = .ok (.putfield 33, 3) := by decide +kernel
theorem d_R_init_47 : decode b_R_init 47 = .ok (.aload_n 0, 1) := by decide +kernel
theorem d_R_init_48 : decode b_R_init 48 = .ok (.bipush 8, 2) := by decide +kernel
theorem d_R_init_50 : decode b_R_init 50 = .ok (.newarray .int, 2) := by decide +kernel
theorem d_R_init_52 : decode b_R_init 52 = .ok (.putfield 36, 3) := by decide +kernel
theorem d_R_init_55 : decode b_R_init 55 = .ok (.aload_n 0, 1) := by decide +kernel
theorem d_R_init_56 : decode b_R_init 56 = .ok (.bipush 8, 2) := by decide +kernel
theorem d_R_init_58 : decode b_R_init 58 = .ok (.newarray .int, 2) := by decide +kernel
theorem d_R_init_60 : decode b_R_init 60 = .ok (.putfield 40, 3) := by decide +kernel
theorem d_R_init_63 : decode b_R_init 63 = .ok (.aload_n 0, 1) := by decide +kernel
theorem d_R_init_64 : decode b_R_init 64 = .ok (.getfield 36, 3) := by decide +kernel
theorem d_R_init_67 : decode b_R_init 67 = .ok (.iconst 0, 1) := by decide +kernel
theorem d_R_init_68 : decode b_R_init 68 = .ok (.iload 4, 2) := by decide +kernel
theorem d_R_init_70 : decode b_R_init 70 = .ok (.iastore, 1) := by decide +kernel
theorem d_R_init_71 : decode b_R_init 71 = .ok (.aload_n 0, 1) := by decide +kernel
theorem d_R_init_72 : decode b_R_init 72 = .ok (.getfield 40, 3) := by decide +kernel
theorem d_R_init_75 : decode b_R_init 75 = .ok (.iconst 0, 1) := by decide +kernel
theorem d_R_init_76 : decode b_R_init 76 = .ok (.iload 7, 2) := by decide +kernel
theorem d_R_init_78 : decode b_R_init 78 = .ok (.iastore, 1) := by decide +kernel
theorem d_R_init_79 : decode b_R_init 79 = .ok (.aload_n 0, 1) := by decide +kernel
theorem d_R_init_80 : decode b_R_init 80 = .ok (.iconst 1, 1) := by decide +kernel
theorem d_R_init_81 : decode b_R_init 81 = .ok (.putfield 43, 3) := by decide +kernel
theorem d_R_init_84 : decode b_R_init 84 = .ok (.return_, 1) := by decide +kernel
theorem d_R_leaveOut_0 : decode b_R_leaveOut 0 = .ok (.aload_n 0, 1) := by decide +kernel
theorem d_R_leaveOut_1 : decode b_R_leaveOut 1 = .ok (.getfield 30, 3) := by decide +kernel
theorem d_R_leaveOut_4 : decode b_R_leaveOut 4 = .ok (.iload_n 1, 1) := by decide +kernel
theorem d_R_leaveOut_5 : decode b_R_leaveOut 5 = .ok (.invokestatic 46, 3) := by decide +kernel
theorem d_R_leaveOut_8 : decode b_R_leaveOut 8 = .ok (.ifCond .ne 5, 3) := by decide +kernel
theorem d_R_leaveOut_11 : decode b_R_leaveOut 11 = .ok (.iconst 0, 1) := by decide +kernel
theorem d_R_leaveOut_12 : decode b_R_leaveOut 12 = .ok (.ireturn, 1) := by decide +kernel
theorem d_R_leaveOut_13 : decode b_R_leaveOut 13 = .ok (.aload_n 0, 1) := by decide +kernel
theorem d_R_leaveOut_14 : decode b_R_leaveOut 14 = .ok (.dup, 1) := by decide +kernel
theorem d_R_leaveOut_15 : decode b_R_leaveOut 15 = .ok (.getfield 30, 3) := by decide +kernel
theorem d_R_leaveOut_18 : decode b_R_leaveOut 18 = .ok (.iconst 1, 1) := by decide +kernel
theorem d_R_leaveOut_19 : decode b_R_leaveOut 19 = .ok (.iload_n 1, 1) := by decide +kernel
theorem d_R_leaveOut_20 : decode b_R_leaveOut 20 = .ok (.ishl, 1) := by decide +kernel
theorem d_R_leaveOut_21 : decode b_R_leaveOut 21 = .ok (.ior, 1) := by decide +kernel
theorem d_R_leaveOut_22 : decode b_R_leaveOut 22 = .ok (.putfield 30, 3) := by decide +kernel
theorem d_R_leaveOut_25 : decode b_R_leaveOut 25 = .ok (.iconst 1, 1) := by decide +kernel
theorem d_R_leaveOut_26 : decode b_R_leaveOut 26 = .ok (.ireturn, 1) := by decide +kernel
theorem d_R_want_0 : decode b_R_want 0 = .ok (.aload_n 0, 1) := by decide +kernel
theorem d_R_want_1 : decode b_R_want 1 = .ok (.getfield 33, 3) := by decide +kernel
theorem d_R_want_4 : decode b_R_want 4 = .ok (.iload_n 1, 1) := by decide +kernel
theorem d_R_want_5 : decode b_R_want 5 = .ok (.invokestatic 46, 3) := by decide +kernel
theorem d_R_want_8 : decode b_R_want 8 = .ok (.ifCond .ne 5, 3) := by decide +kernel
theorem d_R_want_11 : decode b_R_want 11 = .ok (.iconst 0, 1) := by decide +kernel
theorem d_R_want_12 : decode b_R_want 12 = .ok (.ireturn, 1) := by decide +kernel
theorem d_R_want_13 : decode b_R_want 13 = .ok (.aload_n 0, 1) := by decide +kernel
theorem d_R_want_14 : decode b_R_want 14 = .ok (.dup, 1) := by decide +kernel
theorem d_R_want_15 : decode b_R_want 15 = .ok (.getfield 33, 3) := by decide +kernel
theorem d_R_want_18 : decode b_R_want 18 = .ok (.iconst 1, 1) := by decide +kernel
theorem d_R_want_19 : decode b_R_want 19 = .ok (.iload_n 1, 1) := by decide +kernel
theorem d_R_want_20 : decode b_R_want 20 = .ok (.ishl, 1) := by decide +kernel
theorem d_R_want_21 : decode b_R_want 21 = .ok (.ior, 1) := by decide +kernel
theorem d_R_want_22 : decode b_R_want 22 = .ok (.putfield 33, 3) := by decide +kernel
theorem d_R_want_25 : decode b_R_want 25 = .ok (.iconst 1, 1) := by decide +kernel
theorem d_R_want_26 : decode b_R_want 26 = .ok (.ireturn, 1) := by decide +kernel
theorem d_R_mayMark_0 : decode b_R_mayMark 0 = .ok (.iload_n 0, 1) := by decide +kernel
theorem d_R_mayMark_1 : decode b_R_mayMark 1 = .ok (.iload_n 1, 1) := by decide +kernel
theorem d_R_mayMark_2 : decode b_R_mayMark 2 = .ok (.invokestatic 50, 3) := by decide +kernel
theorem d_R_mayMark_5 : decode b_R_mayMark 5 = .ok (.ifCond .ne 15, 3) := by decide +kernel
theorem d_R_mayMark_8 : decode b_R_mayMark 8 = .ok (.iload_n 0, 1) := by decide +kernel
theorem d_R_mayMark_9 : decode b_R_mayMark 9 = .ok (.invokestatic 53, 3) := by decide +kernel
theorem d_R_mayMark_12 : decode b_R_mayMark 12 = .ok (.iconst 4, 1) := by decide +kernel
theorem d_R_mayMark_13 : decode b_R_mayMark 13 = .ok (.if_icmp .ge 7, 3) := by decide +kernel
theorem d_R_mayMark_16 : decode b_R_mayMark 16 = .ok (.iconst 1, 1) := by decide +kernel
theorem d_R_mayMark_17 : decode b_R_mayMark 17 = .ok (.goto 4, 3) := by decide +kernel
theorem d_R_mayMark_20 : decode b_R_mayMark 20 = .ok (.iconst 0, 1) := by decide +kernel
theorem d_R_mayMark_21 : decode b_R_mayMark 21 = .ok (.ireturn, 1) := by decide +kernel
theorem d_R_tell_0 : decode b_R_tell 0 = .ok (.aload_n 0, 1) := by decide +kernel
theorem d_R_tell_1 : decode b_R_tell 1 = .ok (.getfield 43, 3) := by decide +kernel
theorem d_R_tell_4 : decode b_R_tell 4 = .ok (.bipush 8, 2) := by decide +kernel
theorem d_R_tell_6 : decode b_R_tell 6 = .ok (.if_icmp .ge 33, 3) := by decide +kernel
theorem d_R_tell_9 : decode b_R_tell 9 = .ok (.aload_n 0, 1) := by decide +kernel
theorem d_R_tell_10 : decode b_R_tell 10 = .ok (.getfield 36, 3) := by decide +kernel
theorem d_R_tell_13 : decode b_R_tell 13 = .ok (.aload_n 0, 1) := by decide +kernel
theorem d_R_tell_14 : decode b_R_tell 14 = .ok (.getfield 43, 3) := by decide +kernel
theorem d_R_tell_17 : decode b_R_tell 17 = .ok (.iload_n 1, 1) := by decide +kernel
theorem d_R_tell_18 : decode b_R_tell 18 = .ok (.iastore, 1) := by decide +kernel
theorem d_R_tell_19 : decode b_R_tell 19 = .ok (.aload_n 0, 1) := by decide +kernel
theorem d_R_tell_20 : decode b_R_tell 20 = .ok (.getfield 40, 3) := by decide +kernel
theorem d_R_tell_23 : decode b_R_tell 23 = .ok (.aload_n 0, 1) := by decide +kernel
theorem d_R_tell_24 : decode b_R_tell 24 = .ok (.getfield 43, 3) := by decide +kernel
theorem d_R_tell_27 : decode b_R_tell 27 = .ok (.iload_n 2, 1) := by decide +kernel
theorem d_R_tell_28 : decode b_R_tell 28 = .ok (.iastore, 1) := by decide +kernel
theorem d_R_tell_29 : decode b_R_tell 29 = .ok (.aload_n 0, 1) := by decide +kernel
theorem d_R_tell_30 : decode b_R_tell 30 = .ok (.dup, 1) := by decide +kernel
theorem d_R_tell_31 : decode b_R_tell 31 = .ok (.getfield 43, 3) := by decide +kernel
theorem d_R_tell_34 : decode b_R_tell 34 = .ok (.iconst 1, 1) := by decide +kernel
theorem d_R_tell_35 : decode b_R_tell 35 = .ok (.iadd, 1) := by decide +kernel
theorem d_R_tell_36 : decode b_R_tell 36 = .ok (.putfield 43, 3) := by decide +kernel
theorem d_R_tell_39 : decode b_R_tell 39 = .ok (.return_, 1) := by decide +kernel
theorem d_R_lastDayAsOf_0 : decode b_R_lastDayAsOf 0 = .ok (.iconst (-1), 1) := by decide +kernel
theorem d_R_lastDayAsOf_1 : decode b_R_lastDayAsOf 1 = .ok (.istore_n 2, 1) := by decide +kernel
theorem d_R_lastDayAsOf_2 : decode b_R_lastDayAsOf 2 = .ok (.iconst (-1), 1) := by decide +kernel
theorem d_R_lastDayAsOf_3 : decode b_R_lastDayAsOf 3 = .ok (.istore_n 3, 1) := by decide +kernel
theorem d_R_lastDayAsOf_4 : decode b_R_lastDayAsOf 4 = .ok (.iconst 0, 1) := by decide +kernel
theorem d_R_lastDayAsOf_5 : decode b_R_lastDayAsOf 5 = .ok (.istore 4, 2) := by decide +kernel
theorem d_R_lastDayAsOf_7 : decode b_R_lastDayAsOf 7 = .ok (.iload 4, 2) := by decide +kernel
theorem d_R_lastDayAsOf_9 : decode b_R_lastDayAsOf 9 = .ok (.aload_n 0, 1) := by decide +kernel
theorem d_R_lastDayAsOf_10 : decode b_R_lastDayAsOf 10 = .ok (.getfield 43, 3) := by decide +kernel
theorem d_R_lastDayAsOf_13 : decode b_R_lastDayAsOf 13 = .ok (.if_icmp .ge 47, 3) := by decide +kernel
theorem d_R_lastDayAsOf_16 : decode b_R_lastDayAsOf 16 = .ok (.aload_n 0, 1) := by decide +kernel
theorem d_R_lastDayAsOf_17 : decode b_R_lastDayAsOf 17 = .ok (.getfield 40, 3) := by decide +kernel
theorem d_R_lastDayAsOf_20 : decode b_R_lastDayAsOf 20 = .ok (.iload 4, 2) := by decide +kernel
theorem d_R_lastDayAsOf_22 : decode b_R_lastDayAsOf 22 = .ok (.iaload, 1) := by decide +kernel
theorem d_R_lastDayAsOf_23 : decode b_R_lastDayAsOf 23 = .ok (.iload_n 1, 1) := by decide +kernel
theorem d_R_lastDayAsOf_24 : decode b_R_lastDayAsOf 24 = .ok (.if_icmp .gt 30, 3) := by decide +kernel
theorem d_R_lastDayAsOf_27 : decode b_R_lastDayAsOf 27 = .ok (.aload_n 0, 1) := by decide +kernel
theorem d_R_lastDayAsOf_28 : decode b_R_lastDayAsOf 28 = .ok (.getfield 40, 3) := by decide +kernel
theorem d_R_lastDayAsOf_31 : decode b_R_lastDayAsOf 31 = .ok (.iload 4, 2) := by decide +kernel
theorem d_R_lastDayAsOf_33 : decode b_R_lastDayAsOf 33 = .ok (.iaload, 1) := by decide +kernel
theorem d_R_lastDayAsOf_34 : decode b_R_lastDayAsOf 34 = .ok (.iload_n 3, 1) := by decide +kernel
theorem d_R_lastDayAsOf_35 : decode b_R_lastDayAsOf 35 = .ok (.if_icmp .lt 19, 3) := by decide +kernel
theorem d_R_lastDayAsOf_38 : decode b_R_lastDayAsOf 38 = .ok (.aload_n 0, 1) := by decide +kernel
theorem d_R_lastDayAsOf_39 : decode b_R_lastDayAsOf 39 = .ok (.getfield 40, 3) := by decide +kernel
theorem d_R_lastDayAsOf_42 : decode b_R_lastDayAsOf 42 = .ok (.iload 4, 2) := by decide +kernel
theorem d_R_lastDayAsOf_44 : decode b_R_lastDayAsOf 44 = .ok (.iaload, 1) := by decide +kernel
theorem d_R_lastDayAsOf_45 : decode b_R_lastDayAsOf 45 = .ok (.istore_n 3, 1) := by decide +kernel
theorem d_R_lastDayAsOf_46 : decode b_R_lastDayAsOf 46 = .ok (.aload_n 0, 1) := by decide +kernel
theorem d_R_lastDayAsOf_47 : decode b_R_lastDayAsOf 47 = .ok (.getfield 36, 3) := by decide +kernel
theorem d_R_lastDayAsOf_50 : decode b_R_lastDayAsOf 50 = .ok (.iload 4, 2) := by decide +kernel
theorem d_R_lastDayAsOf_52 : decode b_R_lastDayAsOf 52 = .ok (.iaload, 1) := by decide +kernel
theorem d_R_lastDayAsOf_53 : decode b_R_lastDayAsOf 53 = .ok (.istore_n 2, 1) := by decide +kernel
theorem d_R_lastDayAsOf_54 : decode b_R_lastDayAsOf 54 = .ok (.iinc 4 1, 3) := by decide +kernel
theorem d_R_lastDayAsOf_57 : decode b_R_lastDayAsOf 57 = .ok (.goto (-50), 3) := by decide +kernel
theorem d_R_lastDayAsOf_60 : decode b_R_lastDayAsOf 60 = .ok (.iload_n 2, 1) := by decide +kernel
theorem d_R_lastDayAsOf_61 : decode b_R_lastDayAsOf 61 = .ok (.ireturn, 1) := by decide +kernel
theorem d_R_lastsOn_0 : decode b_R_lastsOn 0 = .ok (.aload_n 0, 1) := by decide +kernel
theorem d_R_lastsOn_1 : decode b_R_lastsOn 1 = .ok (.iload_n 1, 1) := by decide +kernel
theorem d_R_lastsOn_2 : decode b_R_lastsOn 2 = .ok (.iload_n 1, 1) := by decide +kernel
theorem d_R_lastsOn_3 : decode b_R_lastsOn 3 = .ok (.iload_n 2, 1) := by decide +kernel
theorem d_R_lastsOn_4 : decode b_R_lastsOn 4 = .ok (.invokevirtual 59, 3) := by decide +kernel
theorem d_R_lastsOn_7 : decode b_R_lastsOn 7 = .ok (.ireturn, 1) := by decide +kernel
theorem d_R_meets_0 : decode b_R_meets 0 = .ok (.aload_n 0, 1) := by decide +kernel
theorem d_R_meets_1 : decode b_R_meets 1 = .ok (.getfield 18, 3) := by decide +kernel
theorem d_R_meets_4 : decode b_R_meets 4 = .ok (.iload_n 2, 1) := by decide +kernel
theorem d_R_meets_5 : decode b_R_meets 5 = .ok (.if_icmp .gt 16, 3) := by decide +kernel
theorem d_R_meets_8 : decode b_R_meets 8 = .ok (.iload_n 1, 1) := by decide +kernel
theorem d_R_meets_9 : decode b_R_meets 9 = .ok (.aload_n 0, 1) := by decide +kernel
theorem d_R_meets_10 : decode b_R_meets 10 = .ok (.iload_n 3, 1) := by decide +kernel
theorem d_R_meets_11 : decode b_R_meets 11 = .ok (.invokevirtual 63, 3) := by decide +kernel
theorem d_R_meets_14 : decode b_R_meets 14 = .ok (.if_icmp .gt 7, 3) := by decide +kernel
theorem d_R_meets_17 : decode b_R_meets 17 = .ok (.iconst 1, 1) := by decide +kernel
theorem d_R_meets_18 : decode b_R_meets 18 = .ok (.goto 4, 3) := by decide +kernel
theorem d_R_meets_21 : decode b_R_meets 21 = .ok (.iconst 0, 1) := by decide +kernel
theorem d_R_meets_22 : decode b_R_meets 22 = .ok (.ireturn, 1) := by decide +kernel
theorem d_R_isAlike_0 : decode b_R_isAlike 0 = .ok (.aload_n 0, 1) := by decide +kernel
theorem d_R_isAlike_1 : decode b_R_isAlike 1 = .ok (.getfield 9, 3) := by decide +kernel
theorem d_R_isAlike_4 : decode b_R_isAlike 4 = .ok (.iload_n 1, 1) := by decide +kernel
theorem d_R_isAlike_5 : decode b_R_isAlike 5 = .ok (.if_icmp .ne 32, 3) := by decide +kernel
theorem d_R_isAlike_8 : decode b_R_isAlike 8 = .ok (.aload_n 0, 1) := by decide +kernel
theorem d_R_isAlike_9 : decode b_R_isAlike 9 = .ok (.getfield 15, 3) := by decide +kernel
theorem d_R_isAlike_12 : decode b_R_isAlike 12 = .ok (.iload_n 2, 1) := by decide +kernel
theorem d_R_isAlike_13 : decode b_R_isAlike 13 = .ok (.if_icmp .ne 24, 3) := by decide +kernel
theorem d_R_isAlike_16 : decode b_R_isAlike 16 = .ok (.aload_n 0, 1) := by decide +kernel
theorem d_R_isAlike_17 : decode b_R_isAlike 17 = .ok (.getfield 21, 3) := by decide +kernel
theorem d_R_isAlike_20 : decode b_R_isAlike 20 = .ok (.iload_n 3, 1) := by decide +kernel
theorem d_R_isAlike_21 : decode b_R_isAlike 21 = .ok (.if_icmp .ne 16, 3) := by decide +kernel
theorem d_R_isAlike_24 : decode b_R_isAlike 24 = .ok (.aload_n 0, 1) := by decide +kernel
theorem d_R_isAlike_25 : decode b_R_isAlike 25 = .ok (.getfield 24, 3) := by decide +kernel
theorem d_R_isAlike_28 : decode b_R_isAlike 28 = .ok (.iload 4, 2) := by decide +kernel
theorem d_R_isAlike_30 : decode b_R_isAlike 30 = .ok (.if_icmp .ne 7, 3) := by decide +kernel
theorem d_R_isAlike_33 : decode b_R_isAlike 33 = .ok (.iconst 1, 1) := by decide +kernel
theorem d_R_isAlike_34 : decode b_R_isAlike 34 = .ok (.goto 4, 3) := by decide +kernel
theorem d_R_isAlike_37 : decode b_R_isAlike 37 = .ok (.iconst 0, 1) := by decide +kernel
theorem d_R_isAlike_38 : decode b_R_isAlike 38 = .ok (.ireturn, 1) := by decide +kernel
theorem d_R_leavesOut_0 : decode b_R_leavesOut 0 = .ok (.aload_n 0, 1) := by decide +kernel
theorem d_R_leavesOut_1 : decode b_R_leavesOut 1 = .ok (.getfield 30, 3) := by decide +kernel
theorem d_R_leavesOut_4 : decode b_R_leavesOut 4 = .ok (.iload_n 1, 1) := by decide +kernel
theorem d_R_leavesOut_5 : decode b_R_leavesOut 5 = .ok (.invokestatic 50, 3) := by decide +kernel
theorem d_R_leavesOut_8 : decode b_R_leavesOut 8 = .ok (.ireturn, 1) := by decide +kernel
theorem d_R_isContentWith_0 : decode b_R_isContentWith 0 = .ok (.aload_n 0, 1) := by decide +kernel
theorem d_R_isContentWith_1 : decode b_R_isContentWith 1 = .ok (.getfield 33, 3) := by decide +kernel
theorem d_R_isContentWith_4 : decode b_R_isContentWith 4 = .ok (.ifCond .eq 12, 3) := by decide +kernel
theorem d_R_isContentWith_7 : decode b_R_isContentWith 7 = .ok (.aload_n 0, 1) := by decide +kernel
theorem d_R_isContentWith_8 : decode b_R_isContentWith 8 = .ok (.getfield 33, 3) := by decide +kernel
theorem d_R_isContentWith_11 : decode b_R_isContentWith 11 = .ok (.iload_n 1, 1) := by decide +kernel
theorem d_R_isContentWith_12 : decode b_R_isContentWith 12 = .ok (.iand, 1) := by decide +kernel
theorem d_R_isContentWith_13 : decode b_R_isContentWith 13 = .ok (.ifCond .eq 7, 3) := by decide +kernel
theorem d_R_isContentWith_16 : decode b_R_isContentWith 16 = .ok (.iconst 1, 1) := by decide +kernel
theorem d_R_isContentWith_17 : decode b_R_isContentWith 17 = .ok (.goto 4, 3) := by decide +kernel
theorem d_R_isContentWith_20 : decode b_R_isContentWith 20 = .ok (.iconst 0, 1) := by decide +kernel
theorem d_R_isContentWith_21 : decode b_R_isContentWith 21 = .ok (.ireturn, 1) := by decide +kernel
theorem d_R_weight_0 : decode b_R_weight 0 = .ok (.aload_n 0, 1) := by decide +kernel
theorem d_R_weight_1 : decode b_R_weight 1 = .ok (.getfield 9, 3) := by decide +kernel
theorem d_R_weight_4 : decode b_R_weight 4 = .ok (.invokestatic 66, 3) := by decide +kernel
theorem d_R_weight_7 : decode b_R_weight 7 = .ok (.bipush 10, 2) := by decide +kernel
theorem d_R_weight_9 : decode b_R_weight 9 = .ok (.imul, 1) := by decide +kernel
theorem d_R_weight_10 : decode b_R_weight 10 = .ok (.aload_n 0, 1) := by decide +kernel
theorem d_R_weight_11 : decode b_R_weight 11 = .ok (.getfield 24, 3) := by decide +kernel
theorem d_R_weight_14 : decode b_R_weight 14 = .ok (.iadd, 1) := by decide +kernel
theorem d_R_weight_15 : decode b_R_weight 15 = .ok (.ireturn, 1) := by decide +kernel
