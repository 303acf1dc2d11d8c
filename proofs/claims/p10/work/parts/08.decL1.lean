theorem d_L_ring_0 : decode b_L_ring 0 = .ok (.aload_n 3, 1) := by decide +kernel
theorem d_L_ring_1 : decode b_L_ring 1 = .ok (.iconst 0, 1) := by decide +kernel
theorem d_L_ring_2 : decode b_L_ring 2 = .ok (.aload_n 0, 1) := by decide +kernel
theorem d_L_ring_3 : decode b_L_ring 3 = .ok (.iload_n 1, 1) := by decide +kernel
theorem d_L_ring_4 : decode b_L_ring 4 = .ok (.iload_n 2, 1) := by decide +kernel
theorem d_L_ring_5 : decode b_L_ring 5 = .ok (.invokevirtual 7, 3) := by decide +kernel
theorem d_L_ring_8 : decode b_L_ring 8 = .ok (.ifCond .eq 7, 3) := by decide +kernel
theorem d_L_ring_11 : decode b_L_ring 11 = .ok (.lconst 1, 1) := by decide +kernel
theorem d_L_ring_12 : decode b_L_ring 12 = .ok (.goto 4, 3) := by decide +kernel
theorem d_L_ring_15 : decode b_L_ring 15 = .ok (.lconst 0, 1) := by decide +kernel
theorem d_L_ring_16 : decode b_L_ring 16 = .ok (.lastore, 1) := by decide +kernel
theorem d_L_ring_17 : decode b_L_ring 17 = .ok (.goto 7, 3) := by decide +kernel
theorem d_L_ring_20 : decode b_L_ring 20 = .ok (.astore 4, 2) := by decide +kernel
theorem d_L_ring_22 : decode b_L_ring 22 = .ok (.iconst 1, 1) := by decide +kernel
theorem d_L_ring_23 : decode b_L_ring 23 = .ok (.ireturn, 1) := by decide +kernel
theorem d_L_ring_24 : decode b_L_ring 24 = .ok (.iconst 0, 1) := by decide +kernel
theorem d_L_ring_25 : decode b_L_ring 25 = .ok (.ireturn, 1) := by decide +kernel
theorem d_L_has_0 : decode b_L_has 0 = .ok (.aload_n 3, 1) := by decide +kernel
theorem d_L_has_1 : decode b_L_has 1 = .ok (.iconst 0, 1) := by decide +kernel
theorem d_L_has_2 : decode b_L_has 2 = .ok (.aload_n 0, 1) := by decide +kernel
theorem d_L_has_3 : decode b_L_has 3 = .ok (.iload_n 1, 1) := by decide +kernel
theorem d_L_has_4 : decode b_L_has 4 = .ok (.iload_n 2, 1) := by decide +kernel
theorem d_L_has_5 : decode b_L_has 5 = .ok (.invokevirtual 15, 3) := by decide +kernel
theorem d_L_has_8 : decode b_L_has 8 = .ok (.ifCond .eq 7, 3) := by decide +kernel
theorem d_L_has_11 : decode b_L_has 11 = .ok (.lconst 1, 1) := by decide +kernel
theorem d_L_has_12 : decode b_L_has 12 = .ok (.goto 4, 3) := by decide +kernel
theorem d_L_has_15 : decode b_L_has 15 = .ok (.lconst 0, 1) := by decide +kernel
theorem d_L_has_16 : decode b_L_has 16 = .ok (.lastore, 1) := by decide +kernel
theorem d_L_has_17 : decode b_L_has 17 = .ok (.goto 7, 3) := by decide +kernel
theorem d_L_has_20 : decode b_L_has 20 = .ok (.astore 4, 2) := by decide +kernel
theorem d_L_has_22 : decode b_L_has 22 = .ok (.iconst 1, 1) := by decide +kernel
theorem d_L_has_23 : decode b_L_has 23 = .ok (.ireturn, 1) := by decide +kernel
theorem d_L_has_24 : decode b_L_has 24 = .ok (.iconst 0, 1) := by decide +kernel
theorem d_L_has_25 : decode b_L_has 25 = .ok (.ireturn, 1) := by decide +kernel
theorem d_L_row_0 : decode b_L_row 0 = .ok (.aload 8, 2) := by decide +kernel
theorem d_L_row_2 : decode b_L_row 2 = .ok (.iconst 0, 1) := by decide +kernel
theorem d_L_row_3 : decode b_L_row 3 = .ok (.aload_n 0, 1) := by decide +kernel
theorem d_L_row_4 : decode b_L_row 4 = .ok (.iload_n 1, 1) := by decide +kernel
theorem d_L_row_5 : decode b_L_row 5 = .ok (.iload_n 2, 1) := by decide +kernel
theorem d_L_row_6 : decode b_L_row 6 = .ok (.iload_n 3, 1) := by decide +kernel
theorem d_L_row_7 : decode b_L_row 7 = .ok (.iload 4, 2) := by decide +kernel
theorem d_L_row_9 : decode b_L_row 9 = .ok (.iload 5, 2) := by decide +kernel
theorem d_L_row_11 : decode b_L_row 11 = .ok (.iload 6, 2) := by decide +kernel
theorem d_L_row_13 : decode b_L_row 13 = .ok (.iload 7, 2) := by decide +kernel
theorem d_L_row_15 : decode b_L_row 15 = .ok (.invokevirtual 18, 3) := by decide +kernel
theorem d_L_row_18 : decode b_L_row 18 = .ok (.i2l, 1) := by decide +kernel
theorem d_L_row_19 : decode b_L_row 19 = .ok (.lastore, 1) := by decide +kernel
theorem d_L_row_20 : decode b_L_row 20 = .ok (.goto 11, 3) := by decide +kernel
theorem d_L_row_23 : decode b_L_row 23 = .ok (.astore 9, 2) := by decide +kernel
theorem d_L_row_25 : decode b_L_row 25 = .ok (.iconst 1, 1) := by decide +kernel
theorem d_L_row_26 : decode b_L_row 26 = .ok (.ireturn, 1) := by decide +kernel
theorem d_L_row_27 : decode b_L_row 27 = .ok (.astore 9, 2) := by decide +kernel
theorem d_L_row_29 : decode b_L_row 29 = .ok (.iconst 2, 1) := by decide +kernel
theorem d_L_row_30 : decode b_L_row 30 = .ok (.ireturn, 1) := by decide +kernel
theorem d_L_row_31 : decode b_L_row 31 = .ok (.iconst 0, 1) := by decide +kernel
theorem d_L_row_32 : decode b_L_row 32 = .ok (.ireturn, 1) := by decide +kernel
theorem d_L_end_0 : decode b_L_end 0 = .ok (.aload 4, 2) := by decide +kernel
theorem d_L_end_2 : decode b_L_end 2 = .ok (.iconst 0, 1) := by decide +kernel
theorem d_L_end_3 : decode b_L_end 3 = .ok (.aload_n 0, 1) := by decide +kernel
theorem d_L_end_4 : decode b_L_end 4 = .ok (.iload_n 1, 1) := by decide +kernel
theorem d_L_end_5 : decode b_L_end 5 = .ok (.iload_n 2, 1) := by decide +kernel
theorem d_L_end_6 : decode b_L_end 6 = .ok (.iload_n 3, 1) := by decide +kernel
theorem d_L_end_7 : decode b_L_end 7 = .ok (.invokevirtual 26, 3) := by decide +kernel
theorem d_L_end_10 : decode b_L_end 10 = .ok (.i2l, 1) := by decide +kernel
theorem d_L_end_11 : decode b_L_end 11 = .ok (.lastore, 1) := by decide +kernel
theorem d_L_end_12 : decode b_L_end 12 = .ok (.goto 15, 3) := by decide +kernel
theorem d_L_end_15 : decode b_L_end 15 = .ok (.astore 5, 2) := by decide +kernel
theorem d_L_end_17 : decode b_L_end 17 = .ok (.iconst 1, 1) := by decide +kernel
theorem d_L_end_18 : decode b_L_end 18 = .ok (.ireturn, 1) := by decide +kernel
theorem d_L_end_19 : decode b_L_end 19 = .ok (.astore 5, 2) := by decide +kernel
theorem d_L_end_21 : decode b_L_end 21 = .ok (.iconst 2, 1) := by decide +kernel
theorem d_L_end_22 : decode b_L_end 22 = .ok (.ireturn, 1) := by decide +kernel
theorem d_L_end_23 : decode b_L_end 23 = .ok (.astore 5, 2) := by decide +kernel
theorem d_L_end_25 : decode b_L_end 25 = .ok (.iconst 3, 1) := by decide +kernel
theorem d_L_end_26 : decode b_L_end 26 = .ok (.ireturn, 1) := by decide +kernel
theorem d_L_end_27 : decode b_L_end 27 = .ok (.iconst 0, 1) := by decide +kernel
theorem d_L_end_28 : decode b_L_end 28 = .ok (.ireturn, 1) := by decide +kernel
theorem d_L_apply_0 : decode b_L_apply 0 = .ok (.aload 5, 2) := by decide +kernel
theorem d_L_apply_2 : decode b_L_apply 2 = .ok (.iconst 0, 1) := by decide +kernel
theorem d_L_apply_3 : decode b_L_apply 3 = .ok (.aload_n 0, 1) := by decide +kernel
theorem d_L_apply_4 : decode b_L_apply 4 = .ok (.iload_n 1, 1) := by decide +kernel
theorem d_L_apply_5 : decode b_L_apply 5 = .ok (.iload_n 2, 1) := by decide +kernel
theorem d_L_apply_6 : decode b_L_apply 6 = .ok (.iload_n 3, 1) := by decide +kernel
theorem d_L_apply_7 : decode b_L_apply 7 = .ok (.iload 4, 2) := by decide +kernel
theorem d_L_apply_9 : decode b_L_apply 9 = .ok (.invokevirtual 30, 3) := by decide +kernel
theorem d_L_apply_12 : decode b_L_apply 12 = .ok (.i2l, 1) := by decide +kernel
theorem d_L_apply_13 : decode b_L_apply 13 = .ok (.lastore, 1) := by decide +kernel
theorem d_L_apply_14 : decode b_L_apply 14 = .ok (.goto 7, 3) := by decide +kernel
theorem d_L_apply_17 : decode b_L_apply 17 = .ok (.astore 6, 2) := by decide +kernel
theorem d_L_apply_19 : decode b_L_apply 19 = .ok (.iconst 1, 1) := by decide +kernel
theorem d_L_apply_20 : decode b_L_apply 20 = .ok (.ireturn, 1) := by decide +kernel
theorem d_L_apply_21 : decode b_L_apply 21 = .ok (.iconst 0, 1) := by decide +kernel
theorem d_L_apply_22 : decode b_L_apply 22 = .ok (.ireturn, 1) := by decide +kernel
theorem d_L_scan_0 : decode b_L_scan 0 = .ok (.aload 4, 2) := by decide +kernel
theorem d_L_scan_2 : decode b_L_scan 2 = .ok (.iconst 0, 1) := by decide +kernel
theorem d_L_scan_3 : decode b_L_scan 3 = .ok (.aload_n 0, 1) := by decide +kernel
theorem d_L_scan_4 : decode b_L_scan 4 = .ok (.iload_n 1, 1) := by decide +kernel
theorem d_L_scan_5 : decode b_L_scan 5 = .ok (.iload_n 2, 1) := by decide +kernel
theorem d_L_scan_6 : decode b_L_scan 6 = .ok (.iload_n 3, 1) := by decide +kernel
theorem d_L_scan_7 : decode b_L_scan 7 = .ok (.invokevirtual 34, 3) := by decide +kernel
theorem d_L_scan_10 : decode b_L_scan 10 = .ok (.i2l, 1) := by decide +kernel
theorem d_L_scan_11 : decode b_L_scan 11 = .ok (.lastore, 1) := by decide +kernel
theorem d_L_scan_12 : decode b_L_scan 12 = .ok (.goto 7, 3) := by decide +kernel
theorem d_L_scan_15 : decode b_L_scan 15 = .ok (.astore 5, 2) := by decide +kernel
theorem d_L_scan_17 : decode b_L_scan 17 = .ok (.iconst 1, 1) := by decide +kernel
theorem d_L_scan_18 : decode b_L_scan 18 = .ok (.ireturn, 1) := by decide +kernel
theorem d_L_scan_19 : decode b_L_scan 19 = .ok (.iconst 0, 1) := by decide +kernel
theorem d_L_scan_20 : decode b_L_scan 20 = .ok (.ireturn, 1) := by decide +kernel
theorem d_L_change_0 : decode b_L_change 0 = .ok (.aload 4, 2) := by decide +kernel
theorem d_L_change_2 : decode b_L_change 2 = .ok (.iconst 0, 1) := by decide +kernel
theorem d_L_change_3 : decode b_L_change 3 = .ok (.aload_n 0, 1) := by decide +kernel
theorem d_L_change_4 : decode b_L_change 4 = .ok (.iload_n 1, 1) := by decide +kernel
theorem d_L_change_5 : decode b_L_change 5 = .ok (.iload_n 2, 1) := by decide +kernel
theorem d_L_change_6 : decode b_L_change 6 = .ok (.iload_n 3, 1) := by decide +kernel
theorem d_L_change_7 : decode b_L_change 7 = .ok (.invokevirtual 37, 3) := by decide +kernel
theorem d_L_change_10 : decode b_L_change 10 = .ok (.i2l, 1) := by decide +kernel
theorem d_L_change_11 : decode b_L_change 11 = .ok (.lastore, 1) := by decide +kernel
theorem d_L_change_12 : decode b_L_change 12 = .ok (.goto 7, 3) := by decide +kernel
theorem d_L_change_15 : decode b_L_change 15 = .ok (.astore 5, 2) := by decide +kernel
theorem d_L_change_17 : decode b_L_change 17 = .ok (.iconst 1, 1) := by decide +kernel
theorem d_L_change_18 : decode b_L_change 18 = .ok (.ireturn, 1) := by decide +kernel
theorem d_L_change_19 : decode b_L_change 19 = .ok (.iconst 0, 1) := by decide +kernel
theorem d_L_change_20 : decode b_L_change 20 = .ok (.ireturn, 1) := by decide +kernel
theorem d_L_look_0 : decode b_L_look 0 = .ok (.aload_n 3, 1) := by decide +kernel
theorem d_L_look_1 : decode b_L_look 1 = .ok (.iconst 0, 1) := by decide +kernel
theorem d_L_look_2 : decode b_L_look 2 = .ok (.aload_n 0, 1) := by decide +kernel
theorem d_L_look_3 : decode b_L_look 3 = .ok (.iload_n 1, 1) := by decide +kernel
theorem d_L_look_4 : decode b_L_look 4 = .ok (.iload_n 2, 1) := by decide +kernel
theorem d_L_look_5 : decode b_L_look 5 = .ok (.invokevirtual 40, 3) := by decide +kernel
theorem d_L_look_8 : decode b_L_look 8 = .ok (.i2l, 1) := by decide +kernel
theorem d_L_look_9 : decode b_L_look 9 = .ok (.lastore, 1) := by decide +kernel
theorem d_L_look_10 : decode b_L_look 10 = .ok (.goto 7, 3) := by decide +kernel
theorem d_L_look_13 : decode b_L_look 13 = .ok (.astore 4, 2) := by decide +kernel
theorem d_L_look_15 : decode b_L_look 15 = .ok (.iconst 1, 1) := by decide +kernel
theorem d_L_look_16 : decode b_L_look 16 = .ok (.ireturn, 1) := by decide +kernel
theorem d_L_look_17 : decode b_L_look 17 = .ok (.iconst 0, 1) := by decide +kernel
theorem d_L_look_18 : decode b_L_look 18 = .ok (.ireturn, 1) := by decide +kernel
theorem d_L_law_0 : decode code 0 = .ok (.new 8, 3) := by decide +kernel
theorem d_L_law_3 : decode code 3 = .ok (.dup, 1) := by decide +kernel
theorem d_L_law_4 : decode code 4 = .ok (.invokespecial 44, 3) := by decide +kernel
theorem d_L_law_7 : decode code 7 = .ok (.astore_n 1, 1) := by decide +kernel
theorem d_L_law_8 : decode code 8 = .ok (.new 45, 3) := by decide +kernel
theorem d_L_law_11 : decode code 11 = .ok (.dup, 1) := by decide +kernel
theorem d_L_law_12 : decode code 12 = .ok (.invokespecial 47, 3) := by decide +kernel
theorem d_L_law_15 : decode code 15 = .ok (.astore_n 2, 1) := by decide +kernel
theorem d_L_law_16 : decode code 16 = .ok (.iconst 1, 1) := by decide +kernel
theorem d_L_law_17 : decode code 17 = .ok (.newarray .long, 2) := by decide +kernel
theorem d_L_law_19 : decode code 19 = .ok (.astore_n 3, 1) := by decide +kernel
theorem d_L_law_20 : decode code 20 = .ok (.iconst 0, 1) := by decide +kernel
theorem d_L_law_21 : decode code 21 = .ok (.istore 4, 2) := by decide +kernel
theorem d_L_law_23 : decode code 23 = .ok (.iload 4, 2) := by decide +kernel
theorem d_L_law_25 : decode code 25 = .ok (.aload_n 0, 1) := by decide +kernel
theorem d_L_law_26 : decode code 26 = .ok (.arraylength, 1) := by decide +kernel
theorem d_L_law_27 : decode code 27 = .ok (.bipush 8, 2) := by decide +kernel
theorem d_L_law_29 : decode code 29 = .ok (.isub, 1) := by decide +kernel
theorem d_L_law_30 : decode code 30 = .ok (.if_icmp .gt 744, 3) := by decide +kernel
theorem d_L_law_33 : decode code 33 = .ok (.aload_n 0, 1) := by decide +kernel
theorem d_L_law_34 : decode code 34 = .ok (.iload 4, 2) := by decide +kernel
theorem d_L_law_36 : decode code 36 = .ok (.iaload, 1) := by decide +kernel
theorem d_L_law_37 : decode code 37 = .ok (.bipush 15, 2) := by decide +kernel
theorem d_L_law_39 : decode code 39 = .ok (.iand, 1) := by decide +kernel
theorem d_L_law_40 : decode code 40 = .ok (.tableswitch 728 0 13 #[72, 109, 149, 189, 293, 330, 367, 419, 442, 534, 559, 611, 663, 703], 72) := by decide +kernel
theorem d_L_law_112 : decode code 112 = .ok (.aload_n 1, 1) := by decide +kernel
theorem d_L_law_113 : decode code 113 = .ok (.aload_n 0, 1) := by decide +kernel
theorem d_L_law_114 : decode code 114 = .ok (.iload 4, 2) := by decide +kernel
theorem d_L_law_116 : decode code 116 = .ok (.iconst 1, 1) := by decide +kernel
theorem d_L_law_117 : decode code 117 = .ok (.iadd, 1) := by decide +kernel
theorem d_L_law_118 : decode code 118 = .ok (.iaload, 1) := by decide +kernel
theorem d_L_law_119 : decode code 119 = .ok (.aload_n 0, 1) := by decide +kernel
theorem d_L_law_120 : decode code 120 = .ok (.iload 4, 2) := by decide +kernel
theorem d_L_law_122 : decode code 122 = .ok (.iconst 2, 1) := by decide +kernel
theorem d_L_law_123 : decode code 123 = .ok (.iadd, 1) := by decide +kernel
theorem d_L_law_124 : decode code 124 = .ok (.iaload, 1) := by decide +kernel
theorem d_L_law_125 : decode code 125 = .ok (.invokevirtual 48, 3) := by decide +kernel
theorem d_L_law_128 : decode code 128 = .ok (.pop, 1) := by decide +kernel
theorem d_L_law_129 : decode code 129 = .ok (.aload_n 2, 1) := by decide +kernel
theorem d_L_law_130 : decode code 130 = .ok (.aload_n 0, 1) := by decide +kernel
theorem d_L_law_131 : decode code 131 = .ok (.iload 4, 2) := by decide +kernel
theorem d_L_law_133 : decode code 133 = .ok (.iconst 1, 1) := by decide +kernel
theorem d_L_law_134 : decode code 134 = .ok (.iadd, 1) := by decide +kernel
theorem d_L_law_135 : decode code 135 = .ok (.iaload, 1) := by decide +kernel
theorem d_L_law_136 : decode code 136 = .ok (.aload_n 0, 1) := by decide +kernel
theorem d_L_law_137 : decode code 137 = .ok (.iload 4, 2) := by decide +kernel
theorem d_L_law_139 : decode code 139 = .ok (.iconst 2, 1) := by decide +kernel
theorem d_L_law_140 : decode code 140 = .ok (.iadd, 1) := by decide +kernel
theorem d_L_law_141 : decode code 141 = .ok (.iaload, 1) := by decide +kernel
theorem d_L_law_142 : decode code 142 = .ok (.invokevirtual 51, 3) := by decide +kernel
theorem d_L_law_145 : decode code 145 = .ok (.pop, 1) := by decide +kernel
theorem d_L_law_146 : decode code 146 = .ok (.goto 622, 3) := by decide +kernel
theorem d_L_law_149 : decode code 149 = .ok (.aload_n 1, 1) := by decide +kernel
theorem d_L_law_150 : decode code 150 = .ok (.aload_n 0, 1) := by decide +kernel
theorem d_L_law_151 : decode code 151 = .ok (.iload 4, 2) := by decide +kernel
theorem d_L_law_153 : decode code 153 = .ok (.iconst 1, 1) := by decide +kernel
theorem d_L_law_154 : decode code 154 = .ok (.iadd, 1) := by decide +kernel
theorem d_L_law_155 : decode code 155 = .ok (.iaload, 1) := by decide +kernel
theorem d_L_law_156 : decode code 156 = .ok (.aload_n 0, 1) := by decide +kernel
theorem d_L_law_157 : decode code 157 = .ok (.iload 4, 2) := by decide +kernel
theorem d_L_law_159 : decode code 159 = .ok (.iconst 2, 1) := by decide +kernel
theorem d_L_law_160 : decode code 160 = .ok (.iadd, 1) := by decide +kernel
theorem d_L_law_161 : decode code 161 = .ok (.iaload, 1) := by decide +kernel
theorem d_L_law_162 : decode code 162 = .ok (.aload_n 3, 1) := by decide +kernel
theorem d_L_law_163 : decode code 163 = .ok (.invokestatic 52, 3) := by decide +kernel
theorem d_L_law_166 : decode code 166 = .ok (.istore 5, 2) := by decide +kernel
theorem d_L_law_168 : decode code 168 = .ok (.aload_n 2, 1) := by decide +kernel
theorem d_L_law_169 : decode code 169 = .ok (.aload_n 0, 1) := by decide +kernel
theorem d_L_law_170 : decode code 170 = .ok (.iload 4, 2) := by decide +kernel
theorem d_L_law_172 : decode code 172 = .ok (.iconst 1, 1) := by decide +kernel
theorem d_L_law_173 : decode code 173 = .ok (.iadd, 1) := by decide +kernel
theorem d_L_law_174 : decode code 174 = .ok (.iaload, 1) := by decide +kernel
theorem d_L_law_175 : decode code 175 = .ok (.aload_n 0, 1) := by decide +kernel
theorem d_L_law_176 : decode code 176 = .ok (.iload 4, 2) := by decide +kernel
theorem d_L_law_178 : decode code 178 = .ok (.iconst 2, 1) := by decide +kernel
theorem d_L_law_179 : decode code 179 = .ok (.iadd, 1) := by decide +kernel
theorem d_L_law_180 : decode code 180 = .ok (.iaload, 1) := by decide +kernel
theorem d_L_law_181 : decode code 181 = .ok (.invokevirtual 57, 3) := by decide +kernel
theorem d_L_law_184 : decode code 184 = .ok (.istore 6, 2) := by decide +kernel
theorem d_L_law_186 : decode code 186 = .ok (.goto 582, 3) := by decide +kernel
theorem d_L_law_189 : decode code 189 = .ok (.aload_n 1, 1) := by decide +kernel
theorem d_L_law_190 : decode code 190 = .ok (.aload_n 0, 1) := by decide +kernel
theorem d_L_law_191 : decode code 191 = .ok (.iload 4, 2) := by decide +kernel
theorem d_L_law_193 : decode code 193 = .ok (.iconst 1, 1) := by decide +kernel
theorem d_L_law_194 : decode code 194 = .ok (.iadd, 1) := by decide +kernel
theorem d_L_law_195 : decode code 195 = .ok (.iaload, 1) := by decide +kernel
theorem d_L_law_196 : decode code 196 = .ok (.aload_n 0, 1) := by decide +kernel
theorem d_L_law_197 : decode code 197 = .ok (.iload 4, 2) := by decide +kernel
theorem d_L_law_199 : decode code 199 = .ok (.iconst 2, 1) := by decide +kernel
theorem d_L_law_200 : decode code 200 = .ok (.iadd, 1) := by decide +kernel
theorem d_L_law_201 : decode code 201 = .ok (.iaload, 1) := by decide +kernel
theorem d_L_law_202 : decode code 202 = .ok (.aload_n 3, 1) := by decide +kernel
theorem d_L_law_203 : decode code 203 = .ok (.invokestatic 58, 3) := by decide +kernel
theorem d_L_law_206 : decode code 206 = .ok (.istore 5, 2) := by decide +kernel
theorem d_L_law_208 : decode code 208 = .ok (.aload_n 2, 1) := by decide +kernel
theorem d_L_law_209 : decode code 209 = .ok (.aload_n 0, 1) := by decide +kernel
theorem d_L_law_210 : decode code 210 = .ok (.iload 4, 2) := by decide +kernel
theorem d_L_law_212 : decode code 212 = .ok (.iconst 1, 1) := by decide +kernel
theorem d_L_law_213 : decode code 213 = .ok (.iadd, 1) := by decide +kernel
theorem d_L_law_214 : decode code 214 = .ok (.iaload, 1) := by decide +kernel
theorem d_L_law_215 : decode code 215 = .ok (.aload_n 0, 1) := by decide +kernel
theorem d_L_law_216 : decode code 216 = .ok (.iload 4, 2) := by decide +kernel
theorem d_L_law_218 : decode code 218 = .ok (.iconst 2, 1) := by decide +kernel
theorem d_L_law_219 : decode code 219 = .ok (.iadd, 1) := by decide +kernel
theorem d_L_law_220 : decode code 220 = .ok (.iaload, 1) := by decide +kernel
theorem d_L_law_221 : decode code 221 = .ok (.invokevirtual 60, 3) := by decide +kernel
theorem d_L_law_224 : decode code 224 = .ok (.istore 6, 2) := by decide +kernel
theorem d_L_law_226 : decode code 226 = .ok (.goto 542, 3) := by decide +kernel
theorem d_L_law_229 : decode code 229 = .ok (.aload_n 1, 1) := by decide +kernel
theorem d_L_law_230 : decode code 230 = .ok (.aload_n 0, 1) := by decide +kernel
theorem d_L_law_231 : decode code 231 = .ok (.iload 4, 2) := by decide +kernel
theorem d_L_law_233 : decode code 233 = .ok (.iconst 1, 1) := by decide +kernel
theorem d_L_law_234 : decode code 234 = .ok (.iadd, 1) := by decide +kernel
theorem d_L_law_235 : decode code 235 = .ok (.iaload, 1) := by decide +kernel
theorem d_L_law_236 : decode code 236 = .ok (.aload_n 0, 1) := by decide +kernel
theorem d_L_law_237 : decode code 237 = .ok (.iload 4, 2) := by decide +kernel
theorem d_L_law_239 : decode code 239 = .ok (.iconst 2, 1) := by decide +kernel
theorem d_L_law_240 : decode code 240 = .ok (.iadd, 1) := by decide +kernel
theorem d_L_law_241 : decode code 241 = .ok (.iaload, 1) := by decide +kernel
theorem d_L_law_242 : decode code 242 = .ok (.aload_n 0, 1) := by decide +kernel
theorem d_L_law_243 : decode code 243 = .ok (.iload 4, 2) := by decide +kernel
theorem d_L_law_245 : decode code 245 = .ok (.iconst 3, 1) := by decide +kernel
theorem d_L_law_246 : decode code 246 = .ok (.iadd, 1) := by decide +kernel
theorem d_L_law_247 : decode code 247 = .ok (.iaload, 1) := by decide +kernel
theorem d_L_law_248 : decode code 248 = .ok (.aload_n 0, 1) := by decide +kernel
theorem d_L_law_249 : decode code 249 = .ok (.iload 4, 2) := by decide +kernel
theorem d_L_law_251 : decode code 251 = .ok (.iconst 4, 1) := by decide +kernel
theorem d_L_law_252 : decode code 252 = .ok (.iadd, 1) := by decide +kernel
theorem d_L_law_253 : decode code 253 = .ok (.iaload, 1) := by decide +kernel
theorem d_L_law_254 : decode code 254 = .ok (.aload_n 0, 1) := by decide +kernel
theorem d_L_law_255 : decode code 255 = .ok (.iload 4, 2) := by decide +kernel
theorem d_L_law_257 : decode code 257 = .ok (.iconst 5, 1) := by decide +kernel
theorem d_L_law_258 : decode code 258 = .ok (.iadd, 1) := by decide +kernel
theorem d_L_law_259 : decode code 259 = .ok (.iaload, 1) := by decide +kernel
theorem d_L_law_260 : decode code 260 = .ok (.aload_n 0, 1) := by decide +kernel
theorem d_L_law_261 : decode code 261 = .ok (.iload 4, 2) := by decide +kernel
theorem d_L_law_263 : decode code 263 = .ok (.bipush 6, 2) := by decide +kernel
theorem d_L_law_265 : decode code 265 = .ok (.iadd, 1) := by decide +kernel
theorem d_L_law_266 : decode code 266 = .ok (.iaload, 1) := by decide +kernel
theorem d_L_law_267 : decode code 267 = .ok (.aload_n 0, 1) := by decide +kernel
theorem d_L_law_268 : decode code 268 = .ok (.iload 4, 2) := by decide +kernel
theorem d_L_law_270 : decode code 270 = .ok (.bipush 7, 2) := by decide +kernel
theorem d_L_law_272 : decode code 272 = .ok (.iadd, 1) := by decide +kernel
theorem d_L_law_273 : decode code 273 = .ok (.iaload, 1) := by decide +kernel
theorem d_L_law_274 : decode code 274 = .ok (.aload_n 3, 1) := by decide +kernel
theorem d_L_law_275 : decode code 275 = .ok (.invokestatic 61, 3) := by decide +kernel
theorem d_L_law_278 : decode code 278 = .ok (.istore 5, 2) := by decide +kernel
theorem d_L_law_280 : decode code 280 = .ok (.aload_n 2, 1) := by decide +kernel
theorem d_L_law_281 : decode code 281 = .ok (.aload_n 0, 1) := by decide +kernel
theorem d_L_law_282 : decode code 282 = .ok (.iload 4, 2) := by decide +kernel
theorem d_L_law_284 : decode code 284 = .ok (.iconst 1, 1) := by decide +kernel
theorem d_L_law_285 : decode code 285 = .ok (.iadd, 1) := by decide +kernel
theorem d_L_law_286 : decode code 286 = .ok (.iaload, 1) := by decide +kernel
theorem d_L_law_287 : decode code 287 = .ok (.aload_n 0, 1) := by decide +kernel
theorem d_L_law_288 : decode code 288 = .ok (.iload 4, 2) := by decide +kernel
theorem d_L_law_290 : decode code 290 = .ok (.iconst 2, 1) := by decide +kernel
theorem d_L_law_291 : decode code 291 = .ok (.iadd, 1) := by decide +kernel
theorem d_L_law_292 : decode code 292 = .ok (.iaload, 1) := by decide +kernel
theorem d_L_law_293 : decode code 293 = .ok (.aload_n 0, 1) := by decide +kernel
theorem d_L_law_294 : decode code 294 = .ok (.iload 4, 2) := by decide +kernel
theorem d_L_law_296 : decode code 296 = .ok (.iconst 3, 1) := by decide +kernel
theorem d_L_law_297 : decode code 297 = .ok (.iadd, 1) := by decide +kernel
theorem d_L_law_298 : decode code 298 = .ok (.iaload, 1) := by decide +kernel
theorem d_L_law_299 : decode code 299 = .ok (.aload_n 0, 1) := by decide +kernel
theorem d_L_law_300 : decode code 300 = .ok (.iload 4, 2) := by decide +kernel
theorem d_L_law_302 : decode code 302 = .ok (.iconst 4, 1) := by decide +kernel
theorem d_L_law_303 : decode code 303 = .ok (.iadd, 1) := by decide +kernel
theorem d_L_law_304 : decode code 304 = .ok (.iaload, 1) := by decide +kernel
theorem d_L_law_305 : decode code 305 = .ok (.aload_n 0, 1) := by decide +kernel
theorem d_L_law_306 : decode code 306 = .ok (.iload 4, 2) := by decide +kernel
theorem d_L_law_308 : decode code 308 = .ok (.iconst 5, 1) := by decide +kernel
theorem d_L_law_309 : decode code 309 = .ok (.iadd, 1) := by decide +kernel
theorem d_L_law_310 : decode code 310 = .ok (.iaload, 1) := by decide +kernel
theorem d_L_law_311 : decode code 311 = .ok (.aload_n 0, 1) := by decide +kernel
theorem d_L_law_312 : decode code 312 = .ok (.iload 4, 2) := by decide +kernel
theorem d_L_law_314 : decode code 314 = .ok (.bipush 6, 2) := by decide +kernel
theorem d_L_law_316 : decode code 316 = .ok (.iadd, 1) := by decide +kernel
theorem d_L_law_317 : decode code 317 = .ok (.iaload, 1) := by decide +kernel
theorem d_L_law_318 : decode code 318 = .ok (.aload_n 0, 1) := by decide +kernel
theorem d_L_law_319 : decode code 319 = .ok (.iload 4, 2) := by decide +kernel
theorem d_L_law_321 : decode code 321 = .ok (.bipush 7, 2) := by decide +kernel
theorem d_L_law_323 : decode code 323 = .ok (.iadd, 1) := by decide +kernel
theorem d_L_law_324 : decode code 324 = .ok (.iaload, 1) := by decide +kernel
theorem d_L_law_325 : decode code 325 = .ok (.invokevirtual 64, 3) := by decide +kernel
theorem d_L_law_328 : decode code 328 = .ok (.istore 6, 2) := by decide +kernel
theorem d_L_law_330 : decode code 330 = .ok (.goto 438, 3) := by decide +kernel
theorem d_L_law_333 : decode code 333 = .ok (.aload_n 1, 1) := by decide +kernel
theorem d_L_law_334 : decode code 334 = .ok (.aload_n 0, 1) := by decide +kernel
theorem d_L_law_335 : decode code 335 = .ok (.iload 4, 2) := by decide +kernel
theorem d_L_law_337 : decode code 337 = .ok (.iconst 1, 1) := by decide +kernel
theorem d_L_law_338 : decode code 338 = .ok (.iadd, 1) := by decide +kernel
theorem d_L_law_339 : decode code 339 = .ok (.iaload, 1) := by decide +kernel
theorem d_L_law_340 : decode code 340 = .ok (.aload_n 0, 1) := by decide +kernel
theorem d_L_law_341 : decode code 341 = .ok (.iload 4, 2) := by decide +kernel
theorem d_L_law_343 : decode code 343 = .ok (.iconst 2, 1) := by decide +kernel
theorem d_L_law_344 : decode code 344 = .ok (.iadd, 1) := by decide +kernel
theorem d_L_law_345 : decode code 345 = .ok (.iaload, 1) := by decide +kernel
theorem d_L_law_346 : decode code 346 = .ok (.invokevirtual 65, 3) := by decide +kernel
theorem d_L_law_349 : decode code 349 = .ok (.pop, 1) := by decide +kernel
theorem d_L_law_350 : decode code 350 = .ok (.aload_n 2, 1) := by decide +kernel
theorem d_L_law_351 : decode code 351 = .ok (.aload_n 0, 1) := by decide +kernel
theorem d_L_law_352 : decode code 352 = .ok (.iload 4, 2) := by decide +kernel
theorem d_L_law_354 : decode code 354 = .ok (.iconst 1, 1) := by decide +kernel
theorem d_L_law_355 : decode code 355 = .ok (.iadd, 1) := by decide +kernel
theorem d_L_law_356 : decode code 356 = .ok (.iaload, 1) := by decide +kernel
theorem d_L_law_357 : decode code 357 = .ok (.aload_n 0, 1) := by decide +kernel
theorem d_L_law_358 : decode code 358 = .ok (.iload 4, 2) := by decide +kernel
theorem d_L_law_360 : decode code 360 = .ok (.iconst 2, 1) := by decide +kernel
theorem d_L_law_361 : decode code 361 = .ok (.iadd, 1) := by decide +kernel
theorem d_L_law_362 : decode code 362 = .ok (.iaload, 1) := by decide +kernel
theorem d_L_law_363 : decode code 363 = .ok (.invokevirtual 68, 3) := by decide +kernel
theorem d_L_law_366 : decode code 366 = .ok (.pop, 1) := by decide +kernel
theorem d_L_law_367 : decode code 367 = .ok (.goto 401, 3) := by decide +kernel
theorem d_L_law_370 : decode code 370 = .ok (.aload_n 1, 1) := by decide +kernel
theorem d_L_law_371 : decode code 371 = .ok (.aload_n 0, 1) := by decide +kernel
theorem d_L_law_372 : decode code 372 = .ok (.iload 4, 2) := by decide +kernel
theorem d_L_law_374 : decode code 374 = .ok (.iconst 1, 1) := by decide +kernel
theorem d_L_law_375 : decode code 375 = .ok (.iadd, 1) := by decide +kernel
theorem d_L_law_376 : decode code 376 = .ok (.iaload, 1) := by decide +kernel
theorem d_L_law_377 : decode code 377 = .ok (.aload_n 0, 1) := by decide +kernel
