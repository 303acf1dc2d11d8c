theorem d_D_init_0 : decode b_D_init 0 = .ok (.aload_n 0, 1) := by decide +kernel
theorem d_D_init_1 : decode b_D_init 1 = .ok (.invokespecial 1, 3) := by decide +kernel
theorem d_D_init_4 : decode b_D_init 4 = .ok (.aload_n 0, 1) := by decide +kernel
theorem d_D_init_5 : decode b_D_init 5 = .ok (.bipush 8, 2) := by decide +kernel
theorem d_D_init_7 : decode b_D_init 7 = .ok (.newarray .int, 2) := by decide +kernel
theorem d_D_init_9 : decode b_D_init 9 = .ok (.putfield 7, 3) := by decide +kernel
theorem d_D_init_12 : decode b_D_init 12 = .ok (.aload_n 0, 1) := by decide +kernel
theorem d_D_init_13 : decode b_D_init 13 = .ok (.bipush 81, 2) := by decide +kernel
theorem d_D_init_15 : decode b_D_init 15 = .ok (.newarray .int, 2) := by decide +kernel
theorem d_D_init_17 : decode b_D_init 17 = .ok (.putfield 13, 3) := by decide +kernel
theorem d_D_init_20 : decode b_D_init 20 = .ok (.aload_n 0, 1) := by decide +kernel
theorem d_D_init_21 : decode b_D_init 21 = .ok (.bipush 81, 2) := by decide +kernel
theorem d_D_init_23 : decode b_D_init 23 = .ok (.newarray .int, 2) := by decide +kernel
theorem d_D_init_25 : decode b_D_init 25 = .ok (.putfield 16, 3) := by decide +kernel
theorem d_D_init_28 : decode b_D_init 28 = .ok (.aload_n 0, 1) := by decide +kernel
theorem d_D_init_29 : decode b_D_init 29 = .ok (.bipush 81, 2) := by decide +kernel
theorem d_D_init_31 : decode b_D_init 31 = .ok (.newarray .int, 2) := by decide +kernel
theorem d_D_init_33 : decode b_D_init 33 = .ok (.putfield 19, 3) := by decide +kernel
theorem d_D_init_36 : decode b_D_init 36 = .ok (.aload_n 0, 1) := by decide +kernel
theorem d_D_init_37 : decode b_D_init 37 = .ok (.bipush 81, 2) := by decide +kernel
theorem d_D_init_39 : decode b_D_init 39 = .ok (.newarray .int, 2) := by decide +kernel
theorem d_D_init_41 : decode b_D_init 41 = .ok (.putfield 22, 3) := by decide +kernel
theorem d_D_init_44 : decode b_D_init 44 = .ok (.aload_n 0, 1) := by decide +kernel
theorem d_D_init_45 : decode b_D_init 45 = .ok (.bipush 81, 2) := by decide +kernel
theorem d_D_init_47 : decode b_D_init 47 = .ok (.newarray .int, 2) := by decide +kernel
theorem d_D_init_49 : decode b_D_init 49 = .ok (.putfield 25, 3) := by decide +kernel
theorem d_D_init_52 : decode b_D_init 52 = .ok (.aload_n 0, 1) := by decide +kernel
theorem d_D_init_53 : decode b_D_init 53 = .ok (.bipush 81, 2) := by decide +kernel
theorem d_D_init_55 : decode b_D_init 55 = .ok (.newarray .int, 2) := by decide +kernel
theorem d_D_init_57 : decode b_D_init 57 = .ok (.putfield 28, 3) := by decide +kernel
theorem d_D_init_60 : decode b_D_init 60 = .ok (.aload_n 0, 1) := by decide +kernel
theorem d_D_init_61 : decode b_D_init 61 = .ok (.bipush 81, 2) := by decide +kernel
theorem d_D_init_63 : decode b_D_init 63 = .ok (.newarray .int, 2) := by decide +kernel
theorem d_D_init_65 : decode b_D_init 65 = .ok (.putfield 31, 3) := by decide +kernel
theorem d_D_init_68 : decode b_D_init 68 = .ok (.aload_n 0, 1) := by decide +kernel
theorem d_D_init_69 : decode b_D_init 69 = .ok (.bipush 81, 2) := by decide +kernel
theorem d_D_init_71 : decode b_D_init 71 = .ok (.newarray .int, 2) := by decide +kernel
theorem d_D_init_73 : decode b_D_init 73 = .ok (.putfield 34, 3) := by decide +kernel
theorem d_D_init_76 : decode b_D_init 76 = .ok (.aload_n 0, 1) := by decide +kernel
theorem d_D_init_77 : decode b_D_init 77 = .ok (.bipush 81, 2) := by decide +kernel
theorem d_D_init_79 : decode b_D_init 79 = .ok (.newarray .int, 2) := by decide +kernel
theorem d_D_init_81 : decode b_D_init 81 = .ok (.putfield 37, 3) := by decide +kernel
theorem d_D_init_84 : decode b_D_init 84 = .ok (.aload_n 0, 1) := by decide +kernel
theorem d_D_init_85 : decode b_D_init 85 = .ok (.sipush 648, 3) := by decide +kernel
theorem d_D_init_88 : decode b_D_init 88 = .ok (.newarray .int, 2) := by decide +kernel
theorem d_D_init_90 : decode b_D_init 90 = .ok (.putfield 40, 3) := by decide +kernel
theorem d_D_init_93 : decode b_D_init 93 = .ok (.aload_n 0, 1) := by decide +kernel
theorem d_D_init_94 : decode b_D_init 94 = .ok (.sipush 648, 3) := by decide +kernel
theorem d_D_init_97 : decode b_D_init 97 = .ok (.newarray .int, 2) := by decide +kernel
theorem d_D_init_99 : decode b_D_init 99 = .ok (.putfield 43, 3) := by decide +kernel
theorem d_D_init_102 : decode b_D_init 102 = .ok (.aload_n 0, 1) := by decide +kernel
theorem d_D_init_103 : decode b_D_init 103 = .ok (.bipush 80, 2) := by decide +kernel
theorem d_D_init_105 : decode b_D_init 105 = .ok (.newarray .int, 2) := by decide +kernel
theorem d_D_init_107 : decode b_D_init 107 = .ok (.putfield 46, 3) := by decide +kernel
theorem d_D_init_110 : decode b_D_init 110 = .ok (.aload_n 0, 1) := by decide +kernel
theorem d_D_init_111 : decode b_D_init 111 = .ok (.bipush 81, 2) := by decide +kernel
theorem d_D_init_113 : decode b_D_init 113 = .ok (.newarray .boolean, 2) := by decide +kernel
theorem d_D_init_115 : decode b_D_init 115 = .ok (.putfield 49, 3) := by decide +kernel
theorem d_D_init_118 : decode b_D_init 118 = .ok (.return_, 1) := by decide +kernel
theorem d_D_thrown_0 : decode b_D_thrown 0 = .ok (.aload_n 0, 1) := by decide +kernel
theorem d_D_thrown_1 : decode b_D_thrown 1 = .ok (.getfield 53, 3) := by decide +kernel
theorem d_D_thrown_4 : decode b_D_thrown 4 = .ok (.ireturn, 1) := by decide +kernel
theorem d_D_fails_0 : decode b_D_fails 0 = .ok (.aload_n 0, 1) := by decide +kernel
theorem d_D_fails_1 : decode b_D_fails 1 = .ok (.iload_n 1, 1) := by decide +kernel
theorem d_D_fails_2 : decode b_D_fails 2 = .ok (.putfield 53, 3) := by decide +kernel
theorem d_D_fails_5 : decode b_D_fails 5 = .ok (.iconst 0, 1) := by decide +kernel
theorem d_D_fails_6 : decode b_D_fails 6 = .ok (.ireturn, 1) := by decide +kernel
theorem d_D_in_0 : decode b_D_in 0 = .ok (.iload_n 0, 1) := by decide +kernel
theorem d_D_in_1 : decode b_D_in 1 = .ok (.iload_n 1, 1) := by decide +kernel
theorem d_D_in_2 : decode b_D_in 2 = .ok (.if_icmp .lt 12, 3) := by decide +kernel
theorem d_D_in_5 : decode b_D_in 5 = .ok (.iload_n 0, 1) := by decide +kernel
theorem d_D_in_6 : decode b_D_in 6 = .ok (.iload_n 2, 1) := by decide +kernel
theorem d_D_in_7 : decode b_D_in 7 = .ok (.if_icmp .gt 7, 3) := by decide +kernel
theorem d_D_in_10 : decode b_D_in 10 = .ok (.iconst 1, 1) := by decide +kernel
theorem d_D_in_11 : decode b_D_in 11 = .ok (.goto 4, 3) := by decide +kernel
theorem d_D_in_14 : decode b_D_in 14 = .ok (.iconst 0, 1) := by decide +kernel
theorem d_D_in_15 : decode b_D_in 15 = .ok (.ireturn, 1) := by decide +kernel
theorem d_D_isGroup_0 : decode b_D_isGroup 0 = .ok (.iload_n 0, 1) := by decide +kernel
theorem d_D_isGroup_1 : decode b_D_isGroup 1 = .ok (.bipush 16, 2) := by decide +kernel
theorem d_D_isGroup_3 : decode b_D_isGroup 3 = .ok (.bipush 23, 2) := by decide +kernel
theorem d_D_isGroup_5 : decode b_D_isGroup 5 = .ok (.invokestatic 57, 3) := by decide +kernel
theorem d_D_isGroup_8 : decode b_D_isGroup 8 = .ok (.ireturn, 1) := by decide +kernel
theorem d_D_isLand_0 : decode b_D_isLand 0 = .ok (.iload_n 0, 1) := by decide +kernel
theorem d_D_isLand_1 : decode b_D_isLand 1 = .ok (.iconst 0, 1) := by decide +kernel
theorem d_D_isLand_2 : decode b_D_isLand 2 = .ok (.bipush 15, 2) := by decide +kernel
theorem d_D_isLand_4 : decode b_D_isLand 4 = .ok (.invokestatic 57, 3) := by decide +kernel
theorem d_D_isLand_7 : decode b_D_isLand 7 = .ok (.ireturn, 1) := by decide +kernel
theorem d_D_isDay_0 : decode b_D_isDay 0 = .ok (.iload_n 0, 1) := by decide +kernel
theorem d_D_isDay_1 : decode b_D_isDay 1 = .ok (.iconst 0, 1) := by decide +kernel
theorem d_D_isDay_2 : decode b_D_isDay 2 = .ok (.sipush 10000, 3) := by decide +kernel
theorem d_D_isDay_5 : decode b_D_isDay 5 = .ok (.invokestatic 57, 3) := by decide +kernel
theorem d_D_isDay_8 : decode b_D_isDay 8 = .ok (.ireturn, 1) := by decide +kernel
theorem d_D_digits_0 : decode b_D_digits 0 = .ok (.iload_n 0, 1) := by decide +kernel
theorem d_D_digits_1 : decode b_D_digits 1 = .ok (.bipush 10, 2) := by decide +kernel
theorem d_D_digits_3 : decode b_D_digits 3 = .ok (.bipush 99, 2) := by decide +kernel
theorem d_D_digits_5 : decode b_D_digits 5 = .ok (.invokestatic 57, 3) := by decide +kernel
theorem d_D_digits_8 : decode b_D_digits 8 = .ok (.ifCond .eq 7, 3) := by decide +kernel
theorem d_D_digits_11 : decode b_D_digits 11 = .ok (.iconst 2, 1) := by decide +kernel
theorem d_D_digits_12 : decode b_D_digits 12 = .ok (.goto 37, 3) := by decide +kernel
theorem d_D_digits_15 : decode b_D_digits 15 = .ok (.iload_n 0, 1) := by decide +kernel
theorem d_D_digits_16 : decode b_D_digits 16 = .ok (.sipush 1000, 3) := by decide +kernel
theorem d_D_digits_19 : decode b_D_digits 19 = .ok (.sipush 9999, 3) := by decide +kernel
theorem d_D_digits_22 : decode b_D_digits 22 = .ok (.invokestatic 57, 3) := by decide +kernel
theorem d_D_digits_25 : decode b_D_digits 25 = .ok (.ifCond .eq 7, 3) := by decide +kernel
theorem d_D_digits_28 : decode b_D_digits 28 = .ok (.iconst 4, 1) := by decide +kernel
theorem d_D_digits_29 : decode b_D_digits 29 = .ok (.goto 20, 3) := by decide +kernel
theorem d_D_digits_32 : decode b_D_digits 32 = .ok (.iload_n 0, 1) := by decide +kernel
theorem d_D_digits_33 : decode b_D_digits 33 = .ok (.ldc 61, 2) := by decide +kernel
theorem d_D_digits_35 : decode b_D_digits 35 = .ok (.ldc 62, 2) := by decide +kernel
theorem d_D_digits_37 : decode b_D_digits 37 = .ok (.invokestatic 57, 3) := by decide +kernel
theorem d_D_digits_40 : decode b_D_digits 40 = .ok (.ifCond .eq 8, 3) := by decide +kernel
theorem d_D_digits_43 : decode b_D_digits 43 = .ok (.bipush 6, 2) := by decide +kernel
theorem d_D_digits_45 : decode b_D_digits 45 = .ok (.goto 4, 3) := by decide +kernel
theorem d_D_digits_48 : decode b_D_digits 48 = .ok (.iconst 0, 1) := by decide +kernel
theorem d_D_digits_49 : decode b_D_digits 49 = .ok (.ireturn, 1) := by decide +kernel
theorem d_D_bits_0 : decode b_D_bits 0 = .ok (.iconst 0, 1) := by decide +kernel
theorem d_D_bits_1 : decode b_D_bits 1 = .ok (.istore_n 1, 1) := by decide +kernel
theorem d_D_bits_2 : decode b_D_bits 2 = .ok (.iconst 0, 1) := by decide +kernel
theorem d_D_bits_3 : decode b_D_bits 3 = .ok (.istore_n 2, 1) := by decide +kernel
theorem d_D_bits_4 : decode b_D_bits 4 = .ok (.iload_n 2, 1) := by decide +kernel
theorem d_D_bits_5 : decode b_D_bits 5 = .ok (.bipush 32, 2) := by decide +kernel
theorem d_D_bits_7 : decode b_D_bits 7 = .ok (.if_icmp .ge 17, 3) := by decide +kernel
theorem d_D_bits_10 : decode b_D_bits 10 = .ok (.iload_n 1, 1) := by decide +kernel
theorem d_D_bits_11 : decode b_D_bits 11 = .ok (.iload_n 0, 1) := by decide +kernel
theorem d_D_bits_12 : decode b_D_bits 12 = .ok (.iload_n 2, 1) := by decide +kernel
theorem d_D_bits_13 : decode b_D_bits 13 = .ok (.ishr, 1) := by decide +kernel
theorem d_D_bits_14 : decode b_D_bits 14 = .ok (.iconst 1, 1) := by decide +kernel
theorem d_D_bits_15 : decode b_D_bits 15 = .ok (.iand, 1) := by decide +kernel
theorem d_D_bits_16 : decode b_D_bits 16 = .ok (.iadd, 1) := by decide +kernel
theorem d_D_bits_17 : decode b_D_bits 17 = .ok (.istore_n 1, 1) := by decide +kernel
theorem d_D_bits_18 : decode b_D_bits 18 = .ok (.iinc 2 1, 3) := by decide +kernel
theorem d_D_bits_21 : decode b_D_bits 21 = .ok (.goto (-17), 3) := by decide +kernel
theorem d_D_bits_24 : decode b_D_bits 24 = .ok (.iload_n 1, 1) := by decide +kernel
theorem d_D_bits_25 : decode b_D_bits 25 = .ok (.ireturn, 1) := by decide +kernel
theorem d_D_all_0 : decode b_D_all 0 = .ok (.aload_n 0, 1) := by decide +kernel
theorem d_D_all_1 : decode b_D_all 1 = .ok (.getfield 7, 3) := by decide +kernel
theorem d_D_all_4 : decode b_D_all 4 = .ok (.iload_n 1, 1) := by decide +kernel
theorem d_D_all_5 : decode b_D_all 5 = .ok (.bipush 16, 2) := by decide +kernel
theorem d_D_all_7 : decode b_D_all 7 = .ok (.isub, 1) := by decide +kernel
theorem d_D_all_8 : decode b_D_all 8 = .ok (.iaload, 1) := by decide +kernel
theorem d_D_all_9 : decode b_D_all 9 = .ok (.istore_n 2, 1) := by decide +kernel
theorem d_D_all_10 : decode b_D_all 10 = .ok (.iconst 0, 1) := by decide +kernel
theorem d_D_all_11 : decode b_D_all 11 = .ok (.istore_n 3, 1) := by decide +kernel
theorem d_D_all_12 : decode b_D_all 12 = .ok (.iload_n 3, 1) := by decide +kernel
theorem d_D_all_13 : decode b_D_all 13 = .ok (.bipush 8, 2) := by decide +kernel
theorem d_D_all_15 : decode b_D_all 15 = .ok (.if_icmp .ge 48, 3) := by decide +kernel
theorem d_D_all_18 : decode b_D_all 18 = .ok (.iconst 0, 1) := by decide +kernel
theorem d_D_all_19 : decode b_D_all 19 = .ok (.istore 4, 2) := by decide +kernel
theorem d_D_all_21 : decode b_D_all 21 = .ok (.iload 4, 2) := by decide +kernel
theorem d_D_all_23 : decode b_D_all 23 = .ok (.bipush 8, 2) := by decide +kernel
theorem d_D_all_25 : decode b_D_all 25 = .ok (.if_icmp .ge 32, 3) := by decide +kernel
theorem d_D_all_28 : decode b_D_all 28 = .ok (.iload_n 2, 1) := by decide +kernel
theorem d_D_all_29 : decode b_D_all 29 = .ok (.bipush 16, 2) := by decide +kernel
theorem d_D_all_31 : decode b_D_all 31 = .ok (.iload 4, 2) := by decide +kernel
theorem d_D_all_33 : decode b_D_all 33 = .ok (.iadd, 1) := by decide +kernel
theorem d_D_all_34 : decode b_D_all 34 = .ok (.ishr, 1) := by decide +kernel
theorem d_D_all_35 : decode b_D_all 35 = .ok (.iconst 1, 1) := by decide +kernel
theorem d_D_all_36 : decode b_D_all 36 = .ok (.iand, 1) := by decide +kernel
theorem d_D_all_37 : decode b_D_all 37 = .ok (.iconst 1, 1) := by decide +kernel
theorem d_D_all_38 : decode b_D_all 38 = .ok (.if_icmp .ne 13, 3) := by decide +kernel
theorem d_D_all_41 : decode b_D_all 41 = .ok (.iload_n 2, 1) := by decide +kernel
theorem d_D_all_42 : decode b_D_all 42 = .ok (.aload_n 0, 1) := by decide +kernel
theorem d_D_all_43 : decode b_D_all 43 = .ok (.getfield 7, 3) := by decide +kernel
theorem d_D_all_46 : decode b_D_all 46 = .ok (.iload 4, 2) := by decide +kernel
theorem d_D_all_48 : decode b_D_all 48 = .ok (.iaload, 1) := by decide +kernel
theorem d_D_all_49 : decode b_D_all 49 = .ok (.ior, 1) := by decide +kernel
theorem d_D_all_50 : decode b_D_all 50 = .ok (.istore_n 2, 1) := by decide +kernel
theorem d_D_all_51 : decode b_D_all 51 = .ok (.iinc 4 1, 3) := by decide +kernel
theorem d_D_all_54 : decode b_D_all 54 = .ok (.goto (-33), 3) := by decide +kernel
theorem d_D_all_57 : decode b_D_all 57 = .ok (.iinc 3 1, 3) := by decide +kernel
theorem d_D_all_60 : decode b_D_all 60 = .ok (.goto (-48), 3) := by decide +kernel
theorem d_D_all_63 : decode b_D_all 63 = .ok (.iload_n 2, 1) := by decide +kernel
theorem d_D_all_64 : decode b_D_all 64 = .ok (.ireturn, 1) := by decide +kernel
theorem d_D_rings_0 : decode b_D_rings 0 = .ok (.iload_n 1, 1) := by decide +kernel
theorem d_D_rings_1 : decode b_D_rings 1 = .ok (.iload_n 2, 1) := by decide +kernel
theorem d_D_rings_2 : decode b_D_rings 2 = .ok (.if_icmp .eq 16, 3) := by decide +kernel
theorem d_D_rings_5 : decode b_D_rings 5 = .ok (.aload_n 0, 1) := by decide +kernel
theorem d_D_rings_6 : decode b_D_rings 6 = .ok (.iload_n 2, 1) := by decide +kernel
theorem d_D_rings_7 : decode b_D_rings 7 = .ok (.invokevirtual 63, 3) := by decide +kernel
theorem d_D_rings_10 : decode b_D_rings 10 = .ok (.iload_n 1, 1) := by decide +kernel
theorem d_D_rings_11 : decode b_D_rings 11 = .ok (.ishr, 1) := by decide +kernel
theorem d_D_rings_12 : decode b_D_rings 12 = .ok (.iconst 1, 1) := by decide +kernel
theorem d_D_rings_13 : decode b_D_rings 13 = .ok (.iand, 1) := by decide +kernel
theorem d_D_rings_14 : decode b_D_rings 14 = .ok (.iconst 1, 1) := by decide +kernel
theorem d_D_rings_15 : decode b_D_rings 15 = .ok (.if_icmp .ne 7, 3) := by decide +kernel
theorem d_D_rings_18 : decode b_D_rings 18 = .ok (.iconst 1, 1) := by decide +kernel
theorem d_D_rings_19 : decode b_D_rings 19 = .ok (.goto 4, 3) := by decide +kernel
theorem d_D_rings_22 : decode b_D_rings 22 = .ok (.iconst 0, 1) := by decide +kernel
theorem d_D_rings_23 : decode b_D_rings 23 = .ok (.ireturn, 1) := by decide +kernel
theorem d_D_isIn_0 : decode b_D_isIn 0 = .ok (.iload_n 2, 1) := by decide +kernel
theorem d_D_isIn_1 : decode b_D_isIn 1 = .ok (.bipush 31, 2) := by decide +kernel
theorem d_D_isIn_3 : decode b_D_isIn 3 = .ok (.if_icmp .eq 28, 3) := by decide +kernel
theorem d_D_isIn_6 : decode b_D_isIn 6 = .ok (.iload_n 2, 1) := by decide +kernel
theorem d_D_isIn_7 : decode b_D_isIn 7 = .ok (.iload_n 1, 1) := by decide +kernel
theorem d_D_isIn_8 : decode b_D_isIn 8 = .ok (.if_icmp .eq 23, 3) := by decide +kernel
theorem d_D_isIn_11 : decode b_D_isIn 11 = .ok (.iload_n 2, 1) := by decide +kernel
theorem d_D_isIn_12 : decode b_D_isIn 12 = .ok (.invokestatic 67, 3) := by decide +kernel
theorem d_D_isIn_15 : decode b_D_isIn 15 = .ok (.ifCond .eq 20, 3) := by decide +kernel
theorem d_D_isIn_18 : decode b_D_isIn 18 = .ok (.aload_n 0, 1) := by decide +kernel
theorem d_D_isIn_19 : decode b_D_isIn 19 = .ok (.iload_n 2, 1) := by decide +kernel
theorem d_D_isIn_20 : decode b_D_isIn 20 = .ok (.invokevirtual 63, 3) := by decide +kernel
theorem d_D_isIn_23 : decode b_D_isIn 23 = .ok (.iload_n 1, 1) := by decide +kernel
theorem d_D_isIn_24 : decode b_D_isIn 24 = .ok (.ishr, 1) := by decide +kernel
theorem d_D_isIn_25 : decode b_D_isIn 25 = .ok (.iconst 1, 1) := by decide +kernel
theorem d_D_isIn_26 : decode b_D_isIn 26 = .ok (.iand, 1) := by decide +kernel
theorem d_D_isIn_27 : decode b_D_isIn 27 = .ok (.iconst 1, 1) := by decide +kernel
theorem d_D_isIn_28 : decode b_D_isIn 28 = .ok (.if_icmp .ne 7, 3) := by decide +kernel
theorem d_D_isIn_31 : decode b_D_isIn 31 = .ok (.iconst 1, 1) := by decide +kernel
theorem d_D_isIn_32 : decode b_D_isIn 32 = .ok (.goto 4, 3) := by decide +kernel
theorem d_D_isIn_35 : decode b_D_isIn 35 = .ok (.iconst 0, 1) := by decide +kernel
theorem d_D_isIn_36 : decode b_D_isIn 36 = .ok (.ireturn, 1) := by decide +kernel
theorem d_D_member_0 : decode b_D_member 0 = .ok (.aload_n 0, 1) := by decide +kernel
theorem d_D_member_1 : decode b_D_member 1 = .ok (.iconst 0, 1) := by decide +kernel
theorem d_D_member_2 : decode b_D_member 2 = .ok (.putfield 53, 3) := by decide +kernel
theorem d_D_member_5 : decode b_D_member 5 = .ok (.iload_n 1, 1) := by decide +kernel
theorem d_D_member_6 : decode b_D_member 6 = .ok (.invokestatic 67, 3) := by decide +kernel
theorem d_D_member_9 : decode b_D_member 9 = .ok (.ifCond .eq 50, 3) := by decide +kernel
theorem d_D_member_12 : decode b_D_member 12 = .ok (.iload_n 2, 1) := by decide +kernel
theorem d_D_member_13 : decode b_D_member 13 = .ok (.invokestatic 71, 3) := by decide +kernel
theorem d_D_member_16 : decode b_D_member 16 = .ok (.ifCond .ne 10, 3) := by decide +kernel
theorem d_D_member_19 : decode b_D_member 19 = .ok (.iload_n 2, 1) := by decide +kernel
theorem d_D_member_20 : decode b_D_member 20 = .ok (.invokestatic 67, 3) := by decide +kernel
theorem d_D_member_23 : decode b_D_member 23 = .ok (.ifCond .eq 36, 3) := by decide +kernel
theorem d_D_member_26 : decode b_D_member 26 = .ok (.aload_n 0, 1) := by decide +kernel
theorem d_D_member_27 : decode b_D_member 27 = .ok (.getfield 7, 3) := by decide +kernel
theorem d_D_member_30 : decode b_D_member 30 = .ok (.iload_n 1, 1) := by decide +kernel
theorem d_D_member_31 : decode b_D_member 31 = .ok (.bipush 16, 2) := by decide +kernel
theorem d_D_member_33 : decode b_D_member 33 = .ok (.isub, 1) := by decide +kernel
theorem d_D_member_34 : decode b_D_member 34 = .ok (.iaload, 1) := by decide +kernel
theorem d_D_member_35 : decode b_D_member 35 = .ok (.iload_n 2, 1) := by decide +kernel
theorem d_D_member_36 : decode b_D_member 36 = .ok (.ishr, 1) := by decide +kernel
theorem d_D_member_37 : decode b_D_member 37 = .ok (.iconst 1, 1) := by decide +kernel
theorem d_D_member_38 : decode b_D_member 38 = .ok (.iand, 1) := by decide +kernel
theorem d_D_member_39 : decode b_D_member 39 = .ok (.iconst 1, 1) := by decide +kernel
theorem d_D_member_40 : decode b_D_member 40 = .ok (.if_icmp .eq 19, 3) := by decide +kernel
theorem d_D_member_43 : decode b_D_member 43 = .ok (.iload_n 2, 1) := by decide +kernel
theorem d_D_member_44 : decode b_D_member 44 = .ok (.invokestatic 67, 3) := by decide +kernel
theorem d_D_member_47 : decode b_D_member 47 = .ok (.ifCond .eq 14, 3) := by decide +kernel
theorem d_D_member_50 : decode b_D_member 50 = .ok (.aload_n 0, 1) := by decide +kernel
theorem d_D_member_51 : decode b_D_member 51 = .ok (.iload_n 1, 1) := by decide +kernel
theorem d_D_member_52 : decode b_D_member 52 = .ok (.iload_n 2, 1) := by decide +kernel
theorem d_D_member_53 : decode b_D_member 53 = .ok (.invokevirtual 74, 3) := by decide +kernel
theorem d_D_member_56 : decode b_D_member 56 = .ok (.ifCond .eq 5, 3) := by decide +kernel
theorem d_D_member_59 : decode b_D_member 59 = .ok (.iconst 0, 1) := by decide +kernel
theorem d_D_member_60 : decode b_D_member 60 = .ok (.ireturn, 1) := by decide +kernel
theorem d_D_member_61 : decode b_D_member 61 = .ok (.aload_n 0, 1) := by decide +kernel
theorem d_D_member_62 : decode b_D_member 62 = .ok (.getfield 7, 3) := by decide +kernel
theorem d_D_member_65 : decode b_D_member 65 = .ok (.iload_n 1, 1) := by decide +kernel
theorem d_D_member_66 : decode b_D_member 66 = .ok (.bipush 16, 2) := by decide +kernel
theorem d_D_member_68 : decode b_D_member 68 = .ok (.isub, 1) := by decide +kernel
theorem d_D_member_69 : decode b_D_member 69 = .ok (.dup2, 1) := by decide +kernel
theorem d_D_member_70 : decode b_D_member 70 = .ok (.iaload, 1) := by decide +kernel
theorem d_D_member_71 : decode b_D_member 71 = .ok (.iconst 1, 1) := by decide +kernel
theorem d_D_member_72 : decode b_D_member 72 = .ok (.iload_n 2, 1) := by decide +kernel
theorem d_D_member_73 : decode b_D_member 73 = .ok (.ishl, 1) := by decide +kernel
theorem d_D_member_74 : decode b_D_member 74 = .ok (.ior, 1) := by decide +kernel
theorem d_D_member_75 : decode b_D_member 75 = .ok (.iastore, 1) := by decide +kernel
theorem d_D_member_76 : decode b_D_member 76 = .ok (.iconst 1, 1) := by decide +kernel
theorem d_D_member_77 : decode b_D_member 77 = .ok (.ireturn, 1) := by decide +kernel
theorem d_D_ring_0 : decode b_D_ring 0 = .ok (.aload_n 0, 1) := by decide +kernel
theorem d_D_ring_1 : decode b_D_ring 1 = .ok (.iload_n 1, 1) := by decide +kernel
theorem d_D_ring_2 : decode b_D_ring 2 = .ok (.invokestatic 67, 3) := by decide +kernel
theorem d_D_ring_5 : decode b_D_ring 5 = .ok (.ifCond .eq 14, 3) := by decide +kernel
theorem d_D_ring_8 : decode b_D_ring 8 = .ok (.iload_n 2, 1) := by decide +kernel
theorem d_D_ring_9 : decode b_D_ring 9 = .ok (.invokestatic 67, 3) := by decide +kernel
theorem d_D_ring_12 : decode b_D_ring 12 = .ok (.ifCond .eq 7, 3) := by decide +kernel
theorem d_D_ring_15 : decode b_D_ring 15 = .ok (.iconst 0, 1) := by decide +kernel
theorem d_D_ring_16 : decode b_D_ring 16 = .ok (.goto 4, 3) := by decide +kernel
theorem d_D_ring_19 : decode b_D_ring 19 = .ok (.iconst 1, 1) := by decide +kernel
theorem d_D_ring_20 : decode b_D_ring 20 = .ok (.putfield 53, 3) := by decide +kernel
theorem d_D_ring_23 : decode b_D_ring 23 = .ok (.aload_n 0, 1) := by decide +kernel
theorem d_D_ring_24 : decode b_D_ring 24 = .ok (.getfield 53, 3) := by decide +kernel
theorem d_D_ring_27 : decode b_D_ring 27 = .ok (.ifCond .ne 16, 3) := by decide +kernel
theorem d_D_ring_30 : decode b_D_ring 30 = .ok (.aload_n 0, 1) := by decide +kernel
theorem d_D_ring_31 : decode b_D_ring 31 = .ok (.iload_n 1, 1) := by decide +kernel
theorem d_D_ring_32 : decode b_D_ring 32 = .ok (.iload_n 2, 1) := by decide +kernel
theorem d_D_ring_33 : decode b_D_ring 33 = .ok (.invokevirtual 74, 3) := by decide +kernel
theorem d_D_ring_36 : decode b_D_ring 36 = .ok (.ifCond .eq 7, 3) := by decide +kernel
theorem d_D_ring_39 : decode b_D_ring 39 = .ok (.iconst 1, 1) := by decide +kernel
theorem d_D_ring_40 : decode b_D_ring 40 = .ok (.goto 4, 3) := by decide +kernel
theorem d_D_ring_43 : decode b_D_ring 43 = .ok (.iconst 0, 1) := by decide +kernel
theorem d_D_ring_44 : decode b_D_ring 44 = .ok (.ireturn, 1) := by decide +kernel
theorem d_D_has_0 : decode b_D_has 0 = .ok (.aload_n 0, 1) := by decide +kernel
theorem d_D_has_1 : decode b_D_has 1 = .ok (.iload_n 1, 1) := by decide +kernel
theorem d_D_has_2 : decode b_D_has 2 = .ok (.invokestatic 67, 3) := by decide +kernel
theorem d_D_has_5 : decode b_D_has 5 = .ok (.ifCond .ne 9, 3) := by decide +kernel
theorem d_D_has_8 : decode b_D_has 8 = .ok (.iload_n 1, 1) := by decide +kernel
theorem d_D_has_9 : decode b_D_has 9 = .ok (.bipush 31, 2) := by decide +kernel
theorem d_D_has_11 : decode b_D_has 11 = .ok (.if_icmp .ne 14, 3) := by decide +kernel
theorem d_D_has_14 : decode b_D_has 14 = .ok (.iload_n 2, 1) := by decide +kernel
theorem d_D_has_15 : decode b_D_has 15 = .ok (.invokestatic 71, 3) := by decide +kernel
theorem d_D_has_18 : decode b_D_has 18 = .ok (.ifCond .eq 7, 3) := by decide +kernel
theorem d_D_has_21 : decode b_D_has 21 = .ok (.iconst 0, 1) := by decide +kernel
theorem d_D_has_22 : decode b_D_has 22 = .ok (.goto 4, 3) := by decide +kernel
theorem d_D_has_25 : decode b_D_has 25 = .ok (.iconst 1, 1) := by decide +kernel
theorem d_D_has_26 : decode b_D_has 26 = .ok (.putfield 53, 3) := by decide +kernel
theorem d_D_has_29 : decode b_D_has 29 = .ok (.aload_n 0, 1) := by decide +kernel
theorem d_D_has_30 : decode b_D_has 30 = .ok (.getfield 53, 3) := by decide +kernel
theorem d_D_has_33 : decode b_D_has 33 = .ok (.ifCond .ne 16, 3) := by decide +kernel
theorem d_D_has_36 : decode b_D_has 36 = .ok (.aload_n 0, 1) := by decide +kernel
theorem d_D_has_37 : decode b_D_has 37 = .ok (.iload_n 2, 1) := by decide +kernel
theorem d_D_has_38 : decode b_D_has 38 = .ok (.iload_n 1, 1) := by decide +kernel
theorem d_D_has_39 : decode b_D_has 39 = .ok (.invokevirtual 78, 3) := by decide +kernel
theorem d_D_has_42 : decode b_D_has 42 = .ok (.ifCond .eq 7, 3) := by decide +kernel
theorem d_D_has_45 : decode b_D_has 45 = .ok (.iconst 1, 1) := by decide +kernel
theorem d_D_has_46 : decode b_D_has 46 = .ok (.goto 4, 3) := by decide +kernel
theorem d_D_has_49 : decode b_D_has 49 = .ok (.iconst 0, 1) := by decide +kernel
theorem d_D_has_50 : decode b_D_has 50 = .ok (.ireturn, 1) := by decide +kernel
theorem d_D_isRow_0 : decode b_D_isRow 0 = .ok (.iload_n 1, 1) := by decide +kernel
theorem d_D_isRow_1 : decode b_D_isRow 1 = .ok (.iconst 1, 1) := by decide +kernel
theorem d_D_isRow_2 : decode b_D_isRow 2 = .ok (.if_icmp .lt 15, 3) := by decide +kernel
theorem d_D_isRow_5 : decode b_D_isRow 5 = .ok (.iload_n 1, 1) := by decide +kernel
theorem d_D_isRow_6 : decode b_D_isRow 6 = .ok (.aload_n 0, 1) := by decide +kernel
theorem d_D_isRow_7 : decode b_D_isRow 7 = .ok (.getfield 81, 3) := by decide +kernel
theorem d_D_isRow_10 : decode b_D_isRow 10 = .ok (.if_icmp .gt 7, 3) := by decide +kernel
theorem d_D_isRow_13 : decode b_D_isRow 13 = .ok (.iconst 1, 1) := by decide +kernel
theorem d_D_isRow_14 : decode b_D_isRow 14 = .ok (.goto 4, 3) := by decide +kernel
theorem d_D_isRow_17 : decode b_D_isRow 17 = .ok (.iconst 0, 1) := by decide +kernel
theorem d_D_isRow_18 : decode b_D_isRow 18 = .ok (.ireturn, 1) := by decide +kernel
theorem d_D_lastOf_0 : decode b_D_lastOf 0 = .ok (.iconst 0, 1) := by decide +kernel
theorem d_D_lastOf_1 : decode b_D_lastOf 1 = .ok (.istore_n 3, 1) := by decide +kernel
theorem d_D_lastOf_2 : decode b_D_lastOf 2 = .ok (.iconst 1, 1) := by decide +kernel
theorem d_D_lastOf_3 : decode b_D_lastOf 3 = .ok (.istore 4, 2) := by decide +kernel
theorem d_D_lastOf_5 : decode b_D_lastOf 5 = .ok (.iload 4, 2) := by decide +kernel
theorem d_D_lastOf_7 : decode b_D_lastOf 7 = .ok (.aload_n 0, 1) := by decide +kernel
theorem d_D_lastOf_8 : decode b_D_lastOf 8 = .ok (.getfield 37, 3) := by decide +kernel
theorem d_D_lastOf_11 : decode b_D_lastOf 11 = .ok (.iload_n 1, 1) := by decide +kernel
theorem d_D_lastOf_12 : decode b_D_lastOf 12 = .ok (.iaload, 1) := by decide +kernel
theorem d_D_lastOf_13 : decode b_D_lastOf 13 = .ok (.if_icmp .ge 72, 3) := by decide +kernel
theorem d_D_lastOf_16 : decode b_D_lastOf 16 = .ok (.bipush 8, 2) := by decide +kernel
theorem d_D_lastOf_18 : decode b_D_lastOf 18 = .ok (.iload_n 1, 1) := by decide +kernel
theorem d_D_lastOf_19 : decode b_D_lastOf 19 = .ok (.imul, 1) := by decide +kernel
theorem d_D_lastOf_20 : decode b_D_lastOf 20 = .ok (.iload 4, 2) := by decide +kernel
theorem d_D_lastOf_22 : decode b_D_lastOf 22 = .ok (.iadd, 1) := by decide +kernel
theorem d_D_lastOf_23 : decode b_D_lastOf 23 = .ok (.istore 5, 2) := by decide +kernel
theorem d_D_lastOf_25 : decode b_D_lastOf 25 = .ok (.aload_n 0, 1) := by decide +kernel
theorem d_D_lastOf_26 : decode b_D_lastOf 26 = .ok (.getfield 43, 3) := by decide +kernel
theorem d_D_lastOf_29 : decode b_D_lastOf 29 = .ok (.iload 5, 2) := by decide +kernel
theorem d_D_lastOf_31 : decode b_D_lastOf 31 = .ok (.iaload, 1) := by decide +kernel
theorem d_D_lastOf_32 : decode b_D_lastOf 32 = .ok (.iload_n 2, 1) := by decide +kernel
theorem d_D_lastOf_33 : decode b_D_lastOf 33 = .ok (.if_icmp .gt 44, 3) := by decide +kernel
theorem d_D_lastOf_36 : decode b_D_lastOf 36 = .ok (.aload_n 0, 1) := by decide +kernel
theorem d_D_lastOf_37 : decode b_D_lastOf 37 = .ok (.getfield 43, 3) := by decide +kernel
theorem d_D_lastOf_40 : decode b_D_lastOf 40 = .ok (.bipush 8, 2) := by decide +kernel
theorem d_D_lastOf_42 : decode b_D_lastOf 42 = .ok (.iload_n 1, 1) := by decide +kernel
theorem d_D_lastOf_43 : decode b_D_lastOf 43 = .ok (.imul, 1) := by decide +kernel
theorem d_D_lastOf_44 : decode b_D_lastOf 44 = .ok (.iload_n 3, 1) := by decide +kernel
theorem d_D_lastOf_45 : decode b_D_lastOf 45 = .ok (.iadd, 1) := by decide +kernel
theorem d_D_lastOf_46 : decode b_D_lastOf 46 = .ok (.iaload, 1) := by decide +kernel
theorem d_D_lastOf_47 : decode b_D_lastOf 47 = .ok (.iload_n 2, 1) := by decide +kernel
theorem d_D_lastOf_48 : decode b_D_lastOf 48 = .ok (.if_icmp .gt 24, 3) := by decide +kernel
theorem d_D_lastOf_51 : decode b_D_lastOf 51 = .ok (.aload_n 0, 1) := by decide +kernel
theorem d_D_lastOf_52 : decode b_D_lastOf 52 = .ok (.getfield 43, 3) := by decide +kernel
theorem d_D_lastOf_55 : decode b_D_lastOf 55 = .ok (.iload 5, 2) := by decide +kernel
theorem d_D_lastOf_57 : decode b_D_lastOf 57 = .ok (.iaload, 1) := by decide +kernel
theorem d_D_lastOf_58 : decode b_D_lastOf 58 = .ok (.aload_n 0, 1) := by decide +kernel
theorem d_D_lastOf_59 : decode b_D_lastOf 59 = .ok (.getfield 43, 3) := by decide +kernel
theorem d_D_lastOf_62 : decode b_D_lastOf 62 = .ok (.bipush 8, 2) := by decide +kernel
theorem d_D_lastOf_64 : decode b_D_lastOf 64 = .ok (.iload_n 1, 1) := by decide +kernel
theorem d_D_lastOf_65 : decode b_D_lastOf 65 = .ok (.imul, 1) := by decide +kernel
theorem d_D_lastOf_66 : decode b_D_lastOf 66 = .ok (.iload_n 3, 1) := by decide +kernel
theorem d_D_lastOf_67 : decode b_D_lastOf 67 = .ok (.iadd, 1) := by decide +kernel
theorem d_D_lastOf_68 : decode b_D_lastOf 68 = .ok (.iaload, 1) := by decide +kernel
theorem d_D_lastOf_69 : decode b_D_lastOf 69 = .ok (.if_icmp .lt 8, 3) := by decide +kernel
theorem d_D_lastOf_72 : decode b_D_lastOf 72 = .ok (.iload 4, 2) := by decide +kernel
theorem d_D_lastOf_74 : decode b_D_lastOf 74 = .ok (.goto 4, 3) := by decide +kernel
theorem d_D_lastOf_77 : decode b_D_lastOf 77 = .ok (.iload_n 3, 1) := by decide +kernel
theorem d_D_lastOf_78 : decode b_D_lastOf 78 = .ok (.istore_n 3, 1) := by decide +kernel
theorem d_D_lastOf_79 : decode b_D_lastOf 79 = .ok (.iinc 4 1, 3) := by decide +kernel
theorem d_D_lastOf_82 : decode b_D_lastOf 82 = .ok (.goto (-77), 3) := by decide +kernel
theorem d_D_lastOf_85 : decode b_D_lastOf 85 = .ok (.aload_n 0, 1) := by decide +kernel
theorem d_D_lastOf_86 : decode b_D_lastOf 86 = .ok (.getfield 40, 3) := by decide +kernel
theorem d_D_lastOf_89 : decode b_D_lastOf 89 = .ok (.bipush 8, 2) := by decide +kernel
theorem d_D_lastOf_91 : decode b_D_lastOf 91 = .ok (.iload_n 1, 1) := by decide +kernel
theorem d_D_lastOf_92 : decode b_D_lastOf 92 = .ok (.imul, 1) := by decide +kernel
theorem d_D_lastOf_93 : decode b_D_lastOf 93 = .ok (.iload_n 3, 1) := by decide +kernel
theorem d_D_lastOf_94 : decode b_D_lastOf 94 = .ok (.iadd, 1) := by decide +kernel
theorem d_D_lastOf_95 : decode b_D_lastOf 95 = .ok (.iaload, 1) := by decide +kernel
theorem d_D_lastOf_96 : decode b_D_lastOf 96 = .ok (.ireturn, 1) := by decide +kernel
theorem d_D_clashes_0 : decode b_D_clashes 0 = .ok (.aload_n 0, 1) := by decide +kernel
theorem d_D_clashes_1 : decode b_D_clashes 1 = .ok (.getfield 13, 3) := by decide +kernel
theorem d_D_clashes_4 : decode b_D_clashes 4 = .ok (.iload_n 1, 1) := by decide +kernel
theorem d_D_clashes_5 : decode b_D_clashes 5 = .ok (.iaload, 1) := by decide +kernel
theorem d_D_clashes_6 : decode b_D_clashes 6 = .ok (.iload_n 2, 1) := by decide +kernel
theorem d_D_clashes_7 : decode b_D_clashes 7 = .ok (.if_icmp .ne 64, 3) := by decide +kernel
theorem d_D_clashes_10 : decode b_D_clashes 10 = .ok (.aload_n 0, 1) := by decide +kernel
theorem d_D_clashes_11 : decode b_D_clashes 11 = .ok (.getfield 16, 3) := by decide +kernel
theorem d_D_clashes_14 : decode b_D_clashes 14 = .ok (.iload_n 1, 1) := by decide +kernel
theorem d_D_clashes_15 : decode b_D_clashes 15 = .ok (.iaload, 1) := by decide +kernel
theorem d_D_clashes_16 : decode b_D_clashes 16 = .ok (.iload_n 3, 1) := by decide +kernel
theorem d_D_clashes_17 : decode b_D_clashes 17 = .ok (.if_icmp .ne 54, 3) := by decide +kernel
theorem d_D_clashes_20 : decode b_D_clashes 20 = .ok (.aload_n 0, 1) := by decide +kernel
theorem d_D_clashes_21 : decode b_D_clashes 21 = .ok (.getfield 22, 3) := by decide +kernel
theorem d_D_clashes_24 : decode b_D_clashes 24 = .ok (.iload_n 1, 1) := by decide +kernel
theorem d_D_clashes_25 : decode b_D_clashes 25 = .ok (.iaload, 1) := by decide +kernel
theorem d_D_clashes_26 : decode b_D_clashes 26 = .ok (.iload 6, 2) := by decide +kernel
theorem d_D_clashes_28 : decode b_D_clashes 28 = .ok (.if_icmp .ne 43, 3) := by decide +kernel
theorem d_D_clashes_31 : decode b_D_clashes 31 = .ok (.aload_n 0, 1) := by decide +kernel
theorem d_D_clashes_32 : decode b_D_clashes 32 = .ok (.getfield 25, 3) := by decide +kernel
theorem d_D_clashes_35 : decode b_D_clashes 35 = .ok (.iload_n 1, 1) := by decide +kernel
theorem d_D_clashes_36 : decode b_D_clashes 36 = .ok (.iaload, 1) := by decide +kernel
theorem d_D_clashes_37 : decode b_D_clashes 37 = .ok (.iload 7, 2) := by decide +kernel
theorem d_D_clashes_39 : decode b_D_clashes 39 = .ok (.if_icmp .ne 32, 3) := by decide +kernel
theorem d_D_clashes_42 : decode b_D_clashes 42 = .ok (.aload_n 0, 1) := by decide +kernel
theorem d_D_clashes_43 : decode b_D_clashes 43 = .ok (.getfield 19, 3) := by decide +kernel
theorem d_D_clashes_46 : decode b_D_clashes 46 = .ok (.iload_n 1, 1) := by decide +kernel
theorem d_D_clashes_47 : decode b_D_clashes 47 = .ok (.iaload, 1) := by decide +kernel
theorem d_D_clashes_48 : decode b_D_clashes 48 = .ok (.iload 5, 2) := by decide +kernel
theorem d_D_clashes_50 : decode b_D_clashes 50 = .ok (.if_icmp .gt 21, 3) := by decide +kernel
theorem d_D_clashes_53 : decode b_D_clashes 53 = .ok (.iload 4, 2) := by decide +kernel
theorem d_D_clashes_55 : decode b_D_clashes 55 = .ok (.aload_n 0, 1) := by decide +kernel
theorem d_D_clashes_56 : decode b_D_clashes 56 = .ok (.iload_n 1, 1) := by decide +kernel
theorem d_D_clashes_57 : decode b_D_clashes 57 = .ok (.aload_n 0, 1) := by decide +kernel
theorem d_D_clashes_58 : decode b_D_clashes 58 = .ok (.getfield 84, 3) := by decide +kernel
theorem d_D_clashes_61 : decode b_D_clashes 61 = .ok (.invokevirtual 87, 3) := by decide +kernel
theorem d_D_clashes_64 : decode b_D_clashes 64 = .ok (.if_icmp .gt 7, 3) := by decide +kernel
theorem d_D_clashes_67 : decode b_D_clashes 67 = .ok (.iconst 1, 1) := by decide +kernel
theorem d_D_clashes_68 : decode b_D_clashes 68 = .ok (.goto 4, 3) := by decide +kernel
theorem d_D_clashes_71 : decode b_D_clashes 71 = .ok (.iconst 0, 1) := by decide +kernel
theorem d_D_clashes_72 : decode b_D_clashes 72 = .ok (.ireturn, 1) := by decide +kernel
theorem d_D_row_0 : decode b_D_row 0 = .ok (.iload_n 1, 1) := by decide +kernel
theorem d_D_row_1 : decode b_D_row 1 = .ok (.invokestatic 91, 3) := by decide +kernel
theorem d_D_row_4 : decode b_D_row 4 = .ok (.ifCond .eq 78, 3) := by decide +kernel
theorem d_D_row_7 : decode b_D_row 7 = .ok (.iload_n 2, 1) := by decide +kernel
theorem d_D_row_8 : decode b_D_row 8 = .ok (.iconst 0, 1) := by decide +kernel
theorem d_D_row_9 : decode b_D_row 9 = .ok (.bipush 23, 2) := by decide +kernel
theorem d_D_row_11 : decode b_D_row 11 = .ok (.invokestatic 57, 3) := by decide +kernel
theorem d_D_row_14 : decode b_D_row 14 = .ok (.ifCond .ne 9, 3) := by decide +kernel
theorem d_D_row_17 : decode b_D_row 17 = .ok (.iload_n 2, 1) := by decide +kernel
theorem d_D_row_18 : decode b_D_row 18 = .ok (.bipush 31, 2) := by decide +kernel
theorem d_D_row_20 : decode b_D_row 20 = .ok (.if_icmp .ne 62, 3) := by decide +kernel
theorem d_D_row_23 : decode b_D_row 23 = .ok (.iload_n 3, 1) := by decide +kernel
theorem d_D_row_24 : decode b_D_row 24 = .ok (.invokestatic 94, 3) := by decide +kernel
theorem d_D_row_27 : decode b_D_row 27 = .ok (.ifCond .eq 55, 3) := by decide +kernel
theorem d_D_row_30 : decode b_D_row 30 = .ok (.iload 4, 2) := by decide +kernel
theorem d_D_row_32 : decode b_D_row 32 = .ok (.invokestatic 94, 3) := by decide +kernel
theorem d_D_row_35 : decode b_D_row 35 = .ok (.ifCond .ne 11, 3) := by decide +kernel
theorem d_D_row_38 : decode b_D_row 38 = .ok (.iload 4, 2) := by decide +kernel
theorem d_D_row_40 : decode b_D_row 40 = .ok (.sipush 20000, 3) := by decide +kernel
theorem d_D_row_43 : decode b_D_row 43 = .ok (.if_icmp .ne 39, 3) := by decide +kernel
theorem d_D_row_46 : decode b_D_row 46 = .ok (.iload 4, 2) := by decide +kernel
theorem d_D_row_48 : decode b_D_row 48 = .ok (.iload_n 3, 1) := by decide +kernel
theorem d_D_row_49 : decode b_D_row 49 = .ok (.if_icmp .lt 33, 3) := by decide +kernel
theorem d_D_row_52 : decode b_D_row 52 = .ok (.iload 5, 2) := by decide +kernel
theorem d_D_row_54 : decode b_D_row 54 = .ok (.iconst 0, 1) := by decide +kernel
theorem d_D_row_55 : decode b_D_row 55 = .ok (.bipush 7, 2) := by decide +kernel
theorem d_D_row_57 : decode b_D_row 57 = .ok (.invokestatic 57, 3) := by decide +kernel
theorem d_D_row_60 : decode b_D_row 60 = .ok (.ifCond .eq 22, 3) := by decide +kernel
theorem d_D_row_63 : decode b_D_row 63 = .ok (.iload 6, 2) := by decide +kernel
theorem d_D_row_65 : decode b_D_row 65 = .ok (.iconst 0, 1) := by decide +kernel
theorem d_D_row_66 : decode b_D_row 66 = .ok (.bipush 9, 2) := by decide +kernel
theorem d_D_row_68 : decode b_D_row 68 = .ok (.invokestatic 57, 3) := by decide +kernel
theorem d_D_row_71 : decode b_D_row 71 = .ok (.ifCond .eq 11, 3) := by decide +kernel
theorem d_D_row_74 : decode b_D_row 74 = .ok (.iload 7, 2) := by decide +kernel
theorem d_D_row_76 : decode b_D_row 76 = .ok (.invokestatic 94, 3) := by decide +kernel
theorem d_D_row_79 : decode b_D_row 79 = .ok (.ifCond .ne 9, 3) := by decide +kernel
theorem d_D_row_82 : decode b_D_row 82 = .ok (.aload_n 0, 1) := by decide +kernel
theorem d_D_row_83 : decode b_D_row 83 = .ok (.iconst 1, 1) := by decide +kernel
theorem d_D_row_84 : decode b_D_row 84 = .ok (.invokevirtual 97, 3) := by decide +kernel
theorem d_D_row_87 : decode b_D_row 87 = .ok (.ireturn, 1) := by decide +kernel
theorem d_D_row_88 : decode b_D_row 88 = .ok (.aload_n 0, 1) := by decide +kernel
theorem d_D_row_89 : decode b_D_row 89 = .ok (.getfield 81, 3) := by decide +kernel
theorem d_D_row_92 : decode b_D_row 92 = .ok (.bipush 80, 2) := by decide +kernel
theorem d_D_row_94 : decode b_D_row 94 = .ok (.if_icmp .ne 9, 3) := by decide +kernel
theorem d_D_row_97 : decode b_D_row 97 = .ok (.aload_n 0, 1) := by decide +kernel
theorem d_D_row_98 : decode b_D_row 98 = .ok (.iconst 2, 1) := by decide +kernel
theorem d_D_row_99 : decode b_D_row 99 = .ok (.invokevirtual 97, 3) := by decide +kernel
theorem d_D_row_102 : decode b_D_row 102 = .ok (.ireturn, 1) := by decide +kernel
theorem d_D_row_103 : decode b_D_row 103 = .ok (.aload_n 0, 1) := by decide +kernel
theorem d_D_row_104 : decode b_D_row 104 = .ok (.iconst 0, 1) := by decide +kernel
theorem d_D_row_105 : decode b_D_row 105 = .ok (.putfield 53, 3) := by decide +kernel
theorem d_D_row_108 : decode b_D_row 108 = .ok (.iconst 1, 1) := by decide +kernel
theorem d_D_row_109 : decode b_D_row 109 = .ok (.istore 8, 2) := by decide +kernel
theorem d_D_row_111 : decode b_D_row 111 = .ok (.iload 8, 2) := by decide +kernel
theorem d_D_row_113 : decode b_D_row 113 = .ok (.aload_n 0, 1) := by decide +kernel
theorem d_D_row_114 : decode b_D_row 114 = .ok (.getfield 81, 3) := by decide +kernel
theorem d_D_row_117 : decode b_D_row 117 = .ok (.if_icmp .gt 32, 3) := by decide +kernel
theorem d_D_row_120 : decode b_D_row 120 = .ok (.aload_n 0, 1) := by decide +kernel
theorem d_D_row_121 : decode b_D_row 121 = .ok (.iload 8, 2) := by decide +kernel
theorem d_D_row_123 : decode b_D_row 123 = .ok (.iload_n 1, 1) := by decide +kernel
theorem d_D_row_124 : decode b_D_row 124 = .ok (.iload_n 2, 1) := by decide +kernel
theorem d_D_row_125 : decode b_D_row 125 = .ok (.iload_n 3, 1) := by decide +kernel
theorem d_D_row_126 : decode b_D_row 126 = .ok (.iload 4, 2) := by decide +kernel
theorem d_D_row_128 : decode b_D_row 128 = .ok (.iload 5, 2) := by decide +kernel
theorem d_D_row_130 : decode b_D_row 130 = .ok (.iload 6, 2) := by decide +kernel
theorem d_D_row_132 : decode b_D_row 132 = .ok (.invokevirtual 100, 3) := by decide +kernel
theorem d_D_row_135 : decode b_D_row 135 = .ok (.ifCond .eq 8, 3) := by decide +kernel
theorem d_D_row_138 : decode b_D_row 138 = .ok (.iconst (-1), 1) := by decide +kernel
theorem d_D_row_139 : decode b_D_row 139 = .ok (.iload 8, 2) := by decide +kernel
theorem d_D_row_141 : decode b_D_row 141 = .ok (.isub, 1) := by decide +kernel
theorem d_D_row_142 : decode b_D_row 142 = .ok (.ireturn, 1) := by decide +kernel
theorem d_D_row_143 : decode b_D_row 143 = .ok (.iinc 8 1, 3) := by decide +kernel
theorem d_D_row_146 : decode b_D_row 146 = .ok (.goto (-35), 3) := by decide +kernel
theorem d_D_row_149 : decode b_D_row 149 = .ok (.aload_n 0, 1) := by decide +kernel
theorem d_D_row_150 : decode b_D_row 150 = .ok (.dup, 1) := by decide +kernel
theorem d_D_row_151 : decode b_D_row 151 = .ok (.getfield 81, 3) := by decide +kernel
theorem d_D_row_154 : decode b_D_row 154 = .ok (.iconst 1, 1) := by decide +kernel
theorem d_D_row_155 : decode b_D_row 155 = .ok (.iadd, 1) := by decide +kernel
theorem d_D_row_156 : decode b_D_row 156 = .ok (.putfield 81, 3) := by decide +kernel
theorem d_D_row_159 : decode b_D_row 159 = .ok (.aload_n 0, 1) := by decide +kernel
theorem d_D_row_160 : decode b_D_row 160 = .ok (.getfield 13, 3) := by decide +kernel
theorem d_D_row_163 : decode b_D_row 163 = .ok (.aload_n 0, 1) := by decide +kernel
theorem d_D_row_164 : decode b_D_row 164 = .ok (.getfield 81, 3) := by decide +kernel
theorem d_D_row_167 : decode b_D_row 167 = .ok (.iload_n 1, 1) := by decide +kernel
theorem d_D_row_168 : decode b_D_row 168 = .ok (.iastore, 1) := by decide +kernel
theorem d_D_row_169 : decode b_D_row 169 = .ok (.aload_n 0, 1) := by decide +kernel
theorem d_D_row_170 : decode b_D_row 170 = .ok (.getfield 16, 3) := by decide +kernel
theorem d_D_row_173 : decode b_D_row 173 = .ok (.aload_n 0, 1) := by decide +kernel
theorem d_D_row_174 : decode b_D_row 174 = .ok (.getfield 81, 3) := by decide +kernel
theorem d_D_row_177 : decode b_D_row 177 = .ok (.iload_n 2, 1) := by decide +kernel
theorem d_D_row_178 : decode b_D_row 178 = .ok (.iastore, 1) := by decide +kernel
theorem d_D_row_179 : decode b_D_row 179 = .ok (.aload_n 0, 1) := by decide +kernel
theorem d_D_row_180 : decode b_D_row 180 = .ok (.getfield 19, 3) := by decide +kernel
theorem d_D_row_183 : decode b_D_row 183 = .ok (.aload_n 0, 1) := by decide +kernel
theorem d_D_row_184 : decode b_D_row 184 = .ok (.getfield 81, 3) := by decide +kernel
theorem d_D_row_187 : decode b_D_row 187 = .ok (.iload_n 3, 1) := by decide +kernel
theorem d_D_row_188 : decode b_D_row 188 = .ok (.iastore, 1) := by decide +kernel
theorem d_D_row_189 : decode b_D_row 189 = .ok (.aload_n 0, 1) := by decide +kernel
theorem d_D_row_190 : decode b_D_row 190 = .ok (.getfield 22, 3) := by decide +kernel
theorem d_D_row_193 : decode b_D_row 193 = .ok (.aload_n 0, 1) := by decide +kernel
theorem d_D_row_194 : decode b_D_row 194 = .ok (.getfield 81, 3) := by decide +kernel
theorem d_D_row_197 : decode b_D_row 197 = .ok (.iload 5, 2) := by decide +kernel
theorem d_D_row_199 : decode b_D_row 199 = .ok (.iastore, 1) := by decide +kernel
theorem d_D_row_200 : decode b_D_row 200 = .ok (.aload_n 0, 1) := by decide +kernel
theorem d_D_row_201 : decode b_D_row 201 = .ok (.getfield 25, 3) := by decide +kernel
theorem d_D_row_204 : decode b_D_row 204 = .ok (.aload_n 0, 1) := by decide +kernel
theorem d_D_row_205 : decode b_D_row 205 = .ok (.getfield 81, 3) := by decide +kernel
theorem d_D_row_208 : decode b_D_row 208 = .ok (.iload 6, 2) := by decide +kernel
theorem d_D_row_210 : decode b_D_row 210 = .ok (.iastore, 1) := by decide +kernel
theorem d_D_row_211 : decode b_D_row 211 = .ok (.aload_n 0, 1) := by decide +kernel
theorem d_D_row_212 : decode b_D_row 212 = .ok (.getfield 28, 3) := by decide +kernel
theorem d_D_row_215 : decode b_D_row 215 = .ok (.aload_n 0, 1) := by decide +kernel
theorem d_D_row_216 : decode b_D_row 216 = .ok (.getfield 81, 3) := by decide +kernel
theorem d_D_row_219 : decode b_D_row 219 = .ok (.iload 7, 2) := by decide +kernel
theorem d_D_row_221 : decode b_D_row 221 = .ok (.iastore, 1) := by decide +kernel
theorem d_D_row_222 : decode b_D_row 222 = .ok (.aload_n 0, 1) := by decide +kernel
theorem d_D_row_223 : decode b_D_row 223 = .ok (.getfield 37, 3) := by decide +kernel
theorem d_D_row_226 : decode b_D_row 226 = .ok (.aload_n 0, 1) := by decide +kernel
theorem d_D_row_227 : decode b_D_row 227 = .ok (.getfield 81, 3) := by decide +kernel
theorem d_D_row_230 : decode b_D_row 230 = .ok (.iconst 1, 1) := by decide +kernel
theorem d_D_row_231 : decode b_D_row 231 = .ok (.iastore, 1) := by decide +kernel
theorem d_D_row_232 : decode b_D_row 232 = .ok (.aload_n 0, 1) := by decide +kernel
theorem d_D_row_233 : decode b_D_row 233 = .ok (.getfield 40, 3) := by decide +kernel
theorem d_D_row_236 : decode b_D_row 236 = .ok (.bipush 8, 2) := by decide +kernel
theorem d_D_row_238 : decode b_D_row 238 = .ok (.aload_n 0, 1) := by decide +kernel
theorem d_D_row_239 : decode b_D_row 239 = .ok (.getfield 81, 3) := by decide +kernel
theorem d_D_row_242 : decode b_D_row 242 = .ok (.imul, 1) := by decide +kernel
theorem d_D_row_243 : decode b_D_row 243 = .ok (.iload 4, 2) := by decide +kernel
theorem d_D_row_245 : decode b_D_row 245 = .ok (.iastore, 1) := by decide +kernel
theorem d_D_row_246 : decode b_D_row 246 = .ok (.aload_n 0, 1) := by decide +kernel
theorem d_D_row_247 : decode b_D_row 247 = .ok (.getfield 43, 3) := by decide +kernel
theorem d_D_row_250 : decode b_D_row 250 = .ok (.bipush 8, 2) := by decide +kernel
theorem d_D_row_252 : decode b_D_row 252 = .ok (.aload_n 0, 1) := by decide +kernel
theorem d_D_row_253 : decode b_D_row 253 = .ok (.getfield 81, 3) := by decide +kernel
theorem d_D_row_256 : decode b_D_row 256 = .ok (.imul, 1) := by decide +kernel
theorem d_D_row_257 : decode b_D_row 257 = .ok (.iload 7, 2) := by decide +kernel
theorem d_D_row_259 : decode b_D_row 259 = .ok (.iastore, 1) := by decide +kernel
theorem d_D_row_260 : decode b_D_row 260 = .ok (.aload_n 0, 1) := by decide +kernel
theorem d_D_row_261 : decode b_D_row 261 = .ok (.iload 7, 2) := by decide +kernel
theorem d_D_row_263 : decode b_D_row 263 = .ok (.aload_n 0, 1) := by decide +kernel
theorem d_D_row_264 : decode b_D_row 264 = .ok (.getfield 84, 3) := by decide +kernel
theorem d_D_row_267 : decode b_D_row 267 = .ok (.if_icmp .le 8, 3) := by decide +kernel
theorem d_D_row_270 : decode b_D_row 270 = .ok (.iload 7, 2) := by decide +kernel
theorem d_D_row_272 : decode b_D_row 272 = .ok (.goto 7, 3) := by decide +kernel
theorem d_D_row_275 : decode b_D_row 275 = .ok (.aload_n 0, 1) := by decide +kernel
theorem d_D_row_276 : decode b_D_row 276 = .ok (.getfield 84, 3) := by decide +kernel
theorem d_D_row_279 : decode b_D_row 279 = .ok (.putfield 84, 3) := by decide +kernel
theorem d_D_row_282 : decode b_D_row 282 = .ok (.aload_n 0, 1) := by decide +kernel
theorem d_D_row_283 : decode b_D_row 283 = .ok (.getfield 81, 3) := by decide +kernel
theorem d_D_row_286 : decode b_D_row 286 = .ok (.ireturn, 1) := by decide +kernel
theorem d_D_exclude_0 : decode b_D_exclude 0 = .ok (.aload_n 0, 1) := by decide +kernel
theorem d_D_exclude_1 : decode b_D_exclude 1 = .ok (.iconst 0, 1) := by decide +kernel
theorem d_D_exclude_2 : decode b_D_exclude 2 = .ok (.putfield 53, 3) := by decide +kernel
theorem d_D_exclude_5 : decode b_D_exclude 5 = .ok (.aload_n 0, 1) := by decide +kernel
theorem d_D_exclude_6 : decode b_D_exclude 6 = .ok (.iload_n 1, 1) := by decide +kernel
theorem d_D_exclude_7 : decode b_D_exclude 7 = .ok (.invokevirtual 104, 3) := by decide +kernel
theorem d_D_exclude_10 : decode b_D_exclude 10 = .ok (.ifCond .eq 37, 3) := by decide +kernel
theorem d_D_exclude_13 : decode b_D_exclude 13 = .ok (.iload_n 2, 1) := by decide +kernel
theorem d_D_exclude_14 : decode b_D_exclude 14 = .ok (.invokestatic 71, 3) := by decide +kernel
theorem d_D_exclude_17 : decode b_D_exclude 17 = .ok (.ifCond .eq 30, 3) := by decide +kernel
theorem d_D_exclude_20 : decode b_D_exclude 20 = .ok (.aload_n 0, 1) := by decide +kernel
theorem d_D_exclude_21 : decode b_D_exclude 21 = .ok (.getfield 31, 3) := by decide +kernel
theorem d_D_exclude_24 : decode b_D_exclude 24 = .ok (.iload_n 1, 1) := by decide +kernel
theorem d_D_exclude_25 : decode b_D_exclude 25 = .ok (.iaload, 1) := by decide +kernel
theorem d_D_exclude_26 : decode b_D_exclude 26 = .ok (.iload_n 2, 1) := by decide +kernel
theorem d_D_exclude_27 : decode b_D_exclude 27 = .ok (.ishr, 1) := by decide +kernel
theorem d_D_exclude_28 : decode b_D_exclude 28 = .ok (.iconst 1, 1) := by decide +kernel
theorem d_D_exclude_29 : decode b_D_exclude 29 = .ok (.iand, 1) := by decide +kernel
theorem d_D_exclude_30 : decode b_D_exclude 30 = .ok (.iconst 1, 1) := by decide +kernel
theorem d_D_exclude_31 : decode b_D_exclude 31 = .ok (.if_icmp .eq 16, 3) := by decide +kernel
theorem d_D_exclude_34 : decode b_D_exclude 34 = .ok (.aload_n 0, 1) := by decide +kernel
theorem d_D_exclude_35 : decode b_D_exclude 35 = .ok (.getfield 31, 3) := by decide +kernel
theorem d_D_exclude_38 : decode b_D_exclude 38 = .ok (.iload_n 1, 1) := by decide +kernel
theorem d_D_exclude_39 : decode b_D_exclude 39 = .ok (.iaload, 1) := by decide +kernel
theorem d_D_exclude_40 : decode b_D_exclude 40 = .ok (.invokestatic 107, 3) := by decide +kernel
theorem d_D_exclude_43 : decode b_D_exclude 43 = .ok (.iconst 4, 1) := by decide +kernel
theorem d_D_exclude_44 : decode b_D_exclude 44 = .ok (.if_icmp .ne 5, 3) := by decide +kernel
theorem d_D_exclude_47 : decode b_D_exclude 47 = .ok (.iconst 0, 1) := by decide +kernel
theorem d_D_exclude_48 : decode b_D_exclude 48 = .ok (.ireturn, 1) := by decide +kernel
theorem d_D_exclude_49 : decode b_D_exclude 49 = .ok (.aload_n 0, 1) := by decide +kernel
theorem d_D_exclude_50 : decode b_D_exclude 50 = .ok (.getfield 31, 3) := by decide +kernel
theorem d_D_exclude_53 : decode b_D_exclude 53 = .ok (.iload_n 1, 1) := by decide +kernel
theorem d_D_exclude_54 : decode b_D_exclude 54 = .ok (.dup2, 1) := by decide +kernel
theorem d_D_exclude_55 : decode b_D_exclude 55 = .ok (.iaload, 1) := by decide +kernel
theorem d_D_exclude_56 : decode b_D_exclude 56 = .ok (.iconst 1, 1) := by decide +kernel
theorem d_D_exclude_57 : decode b_D_exclude 57 = .ok (.iload_n 2, 1) := by decide +kernel
theorem d_D_exclude_58 : decode b_D_exclude 58 = .ok (.ishl, 1) := by decide +kernel
theorem d_D_exclude_59 : decode b_D_exclude 59 = .ok (.ior, 1) := by decide +kernel
theorem d_D_exclude_60 : decode b_D_exclude 60 = .ok (.iastore, 1) := by decide +kernel
theorem d_D_exclude_61 : decode b_D_exclude 61 = .ok (.iconst 1, 1) := by decide +kernel
theorem d_D_exclude_62 : decode b_D_exclude 62 = .ok (.ireturn, 1) := by decide +kernel
theorem d_D_condition_0 : decode b_D_condition 0 = .ok (.aload_n 0, 1) := by decide +kernel
theorem d_D_condition_1 : decode b_D_condition 1 = .ok (.iconst 0, 1) := by decide +kernel
theorem d_D_condition_2 : decode b_D_condition 2 = .ok (.putfield 53, 3) := by decide +kernel
theorem d_D_condition_5 : decode b_D_condition 5 = .ok (.aload_n 0, 1) := by decide +kernel
theorem d_D_condition_6 : decode b_D_condition 6 = .ok (.iload_n 1, 1) := by decide +kernel
theorem d_D_condition_7 : decode b_D_condition 7 = .ok (.invokevirtual 104, 3) := by decide +kernel
theorem d_D_condition_10 : decode b_D_condition 10 = .ok (.ifCond .eq 40, 3) := by decide +kernel
theorem d_D_condition_13 : decode b_D_condition 13 = .ok (.iload_n 2, 1) := by decide +kernel
theorem d_D_condition_14 : decode b_D_condition 14 = .ok (.iconst 0, 1) := by decide +kernel
theorem d_D_condition_15 : decode b_D_condition 15 = .ok (.bipush 15, 2) := by decide +kernel
theorem d_D_condition_17 : decode b_D_condition 17 = .ok (.invokestatic 57, 3) := by decide +kernel
theorem d_D_condition_20 : decode b_D_condition 20 = .ok (.ifCond .eq 30, 3) := by decide +kernel
theorem d_D_condition_23 : decode b_D_condition 23 = .ok (.aload_n 0, 1) := by decide +kernel
theorem d_D_condition_24 : decode b_D_condition 24 = .ok (.getfield 34, 3) := by decide +kernel
theorem d_D_condition_27 : decode b_D_condition 27 = .ok (.iload_n 1, 1) := by decide +kernel
theorem d_D_condition_28 : decode b_D_condition 28 = .ok (.iaload, 1) := by decide +kernel
theorem d_D_condition_29 : decode b_D_condition 29 = .ok (.iload_n 2, 1) := by decide +kernel
theorem d_D_condition_30 : decode b_D_condition 30 = .ok (.ishr, 1) := by decide +kernel
theorem d_D_condition_31 : decode b_D_condition 31 = .ok (.iconst 1, 1) := by decide +kernel
theorem d_D_condition_32 : decode b_D_condition 32 = .ok (.iand, 1) := by decide +kernel
theorem d_D_condition_33 : decode b_D_condition 33 = .ok (.iconst 1, 1) := by decide +kernel
theorem d_D_condition_34 : decode b_D_condition 34 = .ok (.if_icmp .eq 16, 3) := by decide +kernel
theorem d_D_condition_37 : decode b_D_condition 37 = .ok (.aload_n 0, 1) := by decide +kernel
theorem d_D_condition_38 : decode b_D_condition 38 = .ok (.getfield 34, 3) := by decide +kernel
theorem d_D_condition_41 : decode b_D_condition 41 = .ok (.iload_n 1, 1) := by decide +kernel
theorem d_D_condition_42 : decode b_D_condition 42 = .ok (.iaload, 1) := by decide +kernel
theorem d_D_condition_43 : decode b_D_condition 43 = .ok (.invokestatic 107, 3) := by decide +kernel
theorem d_D_condition_46 : decode b_D_condition 46 = .ok (.iconst 4, 1) := by decide +kernel
theorem d_D_condition_47 : decode b_D_condition 47 = .ok (.if_icmp .ne 5, 3) := by decide +kernel
theorem d_D_condition_50 : decode b_D_condition 50 = .ok (.iconst 0, 1) := by decide +kernel
theorem d_D_condition_51 : decode b_D_condition 51 = .ok (.ireturn, 1) := by decide +kernel
theorem d_D_condition_52 : decode b_D_condition 52 = .ok (.aload_n 0, 1) := by decide +kernel
theorem d_D_condition_53 : decode b_D_condition 53 = .ok (.getfield 34, 3) := by decide +kernel
theorem d_D_condition_56 : decode b_D_condition 56 = .ok (.iload_n 1, 1) := by decide +kernel
theorem d_D_condition_57 : decode b_D_condition 57 = .ok (.dup2, 1) := by decide +kernel
theorem d_D_condition_58 : decode b_D_condition 58 = .ok (.iaload, 1) := by decide +kernel
theorem d_D_condition_59 : decode b_D_condition 59 = .ok (.iconst 1, 1) := by decide +kernel
theorem d_D_condition_60 : decode b_D_condition 60 = .ok (.iload_n 2, 1) := by decide +kernel
theorem d_D_condition_61 : decode b_D_condition 61 = .ok (.ishl, 1) := by decide +kernel
theorem d_D_condition_62 : decode b_D_condition 62 = .ok (.ior, 1) := by decide +kernel
theorem d_D_condition_63 : decode b_D_condition 63 = .ok (.iastore, 1) := by decide +kernel
theorem d_D_condition_64 : decode b_D_condition 64 = .ok (.iconst 1, 1) := by decide +kernel
theorem d_D_condition_65 : decode b_D_condition 65 = .ok (.ireturn, 1) := by decide +kernel
theorem d_D_end_0 : decode b_D_end 0 = .ok (.aload_n 0, 1) := by decide +kernel
theorem d_D_end_1 : decode b_D_end 1 = .ok (.iload_n 1, 1) := by decide +kernel
theorem d_D_end_2 : decode b_D_end 2 = .ok (.invokevirtual 104, 3) := by decide +kernel
theorem d_D_end_5 : decode b_D_end 5 = .ok (.ifCond .ne 9, 3) := by decide +kernel
theorem d_D_end_8 : decode b_D_end 8 = .ok (.aload_n 0, 1) := by decide +kernel
theorem d_D_end_9 : decode b_D_end 9 = .ok (.iconst 1, 1) := by decide +kernel
theorem d_D_end_10 : decode b_D_end 10 = .ok (.invokevirtual 97, 3) := by decide +kernel
theorem d_D_end_13 : decode b_D_end 13 = .ok (.ireturn, 1) := by decide +kernel
theorem d_D_end_14 : decode b_D_end 14 = .ok (.iload_n 2, 1) := by decide +kernel
theorem d_D_end_15 : decode b_D_end 15 = .ok (.invokestatic 94, 3) := by decide +kernel
theorem d_D_end_18 : decode b_D_end 18 = .ok (.ifCond .ne 10, 3) := by decide +kernel
theorem d_D_end_21 : decode b_D_end 21 = .ok (.iload_n 2, 1) := by decide +kernel
theorem d_D_end_22 : decode b_D_end 22 = .ok (.sipush 20000, 3) := by decide +kernel
theorem d_D_end_25 : decode b_D_end 25 = .ok (.if_icmp .ne 10, 3) := by decide +kernel
theorem d_D_end_28 : decode b_D_end 28 = .ok (.iload_n 3, 1) := by decide +kernel
theorem d_D_end_29 : decode b_D_end 29 = .ok (.invokestatic 94, 3) := by decide +kernel
theorem d_D_end_32 : decode b_D_end 32 = .ok (.ifCond .ne 9, 3) := by decide +kernel
theorem d_D_end_35 : decode b_D_end 35 = .ok (.aload_n 0, 1) := by decide +kernel
theorem d_D_end_36 : decode b_D_end 36 = .ok (.iconst 2, 1) := by decide +kernel
theorem d_D_end_37 : decode b_D_end 37 = .ok (.invokevirtual 97, 3) := by decide +kernel
theorem d_D_end_40 : decode b_D_end 40 = .ok (.ireturn, 1) := by decide +kernel
theorem d_D_end_41 : decode b_D_end 41 = .ok (.aload_n 0, 1) := by decide +kernel
theorem d_D_end_42 : decode b_D_end 42 = .ok (.getfield 37, 3) := by decide +kernel
theorem d_D_end_45 : decode b_D_end 45 = .ok (.iload_n 1, 1) := by decide +kernel
theorem d_D_end_46 : decode b_D_end 46 = .ok (.iaload, 1) := by decide +kernel
theorem d_D_end_47 : decode b_D_end 47 = .ok (.bipush 8, 2) := by decide +kernel
theorem d_D_end_49 : decode b_D_end 49 = .ok (.if_icmp .ne 9, 3) := by decide +kernel
theorem d_D_end_52 : decode b_D_end 52 = .ok (.aload_n 0, 1) := by decide +kernel
theorem d_D_end_53 : decode b_D_end 53 = .ok (.iconst 3, 1) := by decide +kernel
theorem d_D_end_54 : decode b_D_end 54 = .ok (.invokevirtual 97, 3) := by decide +kernel
theorem d_D_end_57 : decode b_D_end 57 = .ok (.ireturn, 1) := by decide +kernel
theorem d_D_end_58 : decode b_D_end 58 = .ok (.aload_n 0, 1) := by decide +kernel
theorem d_D_end_59 : decode b_D_end 59 = .ok (.iconst 0, 1) := by decide +kernel
theorem d_D_end_60 : decode b_D_end 60 = .ok (.putfield 53, 3) := by decide +kernel
theorem d_D_end_63 : decode b_D_end 63 = .ok (.iload_n 2, 1) := by decide +kernel
theorem d_D_end_64 : decode b_D_end 64 = .ok (.aload_n 0, 1) := by decide +kernel
theorem d_D_end_65 : decode b_D_end 65 = .ok (.getfield 19, 3) := by decide +kernel
theorem d_D_end_68 : decode b_D_end 68 = .ok (.iload_n 1, 1) := by decide +kernel
theorem d_D_end_69 : decode b_D_end 69 = .ok (.iaload, 1) := by decide +kernel
theorem d_D_end_70 : decode b_D_end 70 = .ok (.if_icmp .ge 5, 3) := by decide +kernel
theorem d_D_end_73 : decode b_D_end 73 = .ok (.iconst 0, 1) := by decide +kernel
theorem d_D_end_74 : decode b_D_end 74 = .ok (.ireturn, 1) := by decide +kernel
theorem d_D_end_75 : decode b_D_end 75 = .ok (.aload_n 0, 1) := by decide +kernel
theorem d_D_end_76 : decode b_D_end 76 = .ok (.getfield 40, 3) := by decide +kernel
theorem d_D_end_79 : decode b_D_end 79 = .ok (.bipush 8, 2) := by decide +kernel
theorem d_D_end_81 : decode b_D_end 81 = .ok (.iload_n 1, 1) := by decide +kernel
theorem d_D_end_82 : decode b_D_end 82 = .ok (.imul, 1) := by decide +kernel
theorem d_D_end_83 : decode b_D_end 83 = .ok (.aload_n 0, 1) := by decide +kernel
theorem d_D_end_84 : decode b_D_end 84 = .ok (.getfield 37, 3) := by decide +kernel
theorem d_D_end_87 : decode b_D_end 87 = .ok (.iload_n 1, 1) := by decide +kernel
theorem d_D_end_88 : decode b_D_end 88 = .ok (.iaload, 1) := by decide +kernel
theorem d_D_end_89 : decode b_D_end 89 = .ok (.iadd, 1) := by decide +kernel
theorem d_D_end_90 : decode b_D_end 90 = .ok (.iload_n 2, 1) := by decide +kernel
theorem d_D_end_91 : decode b_D_end 91 = .ok (.iastore, 1) := by decide +kernel
theorem d_D_end_92 : decode b_D_end 92 = .ok (.aload_n 0, 1) := by decide +kernel
theorem d_D_end_93 : decode b_D_end 93 = .ok (.getfield 43, 3) := by decide +kernel
theorem d_D_end_96 : decode b_D_end 96 = .ok (.bipush 8, 2) := by decide +kernel
theorem d_D_end_98 : decode b_D_end 98 = .ok (.iload_n 1, 1) := by decide +kernel
theorem d_D_end_99 : decode b_D_end 99 = .ok (.imul, 1) := by decide +kernel
theorem d_D_end_100 : decode b_D_end 100 = .ok (.aload_n 0, 1) := by decide +kernel
theorem d_D_end_101 : decode b_D_end 101 = .ok (.getfield 37, 3) := by decide +kernel
theorem d_D_end_104 : decode b_D_end 104 = .ok (.iload_n 1, 1) := by decide +kernel
theorem d_D_end_105 : decode b_D_end 105 = .ok (.iaload, 1) := by decide +kernel
theorem d_D_end_106 : decode b_D_end 106 = .ok (.iadd, 1) := by decide +kernel
theorem d_D_end_107 : decode b_D_end 107 = .ok (.iload_n 3, 1) := by decide +kernel
theorem d_D_end_108 : decode b_D_end 108 = .ok (.iastore, 1) := by decide +kernel
theorem d_D_end_109 : decode b_D_end 109 = .ok (.aload_n 0, 1) := by decide +kernel
theorem d_D_end_110 : decode b_D_end 110 = .ok (.getfield 37, 3) := by decide +kernel
theorem d_D_end_113 : decode b_D_end 113 = .ok (.iload_n 1, 1) := by decide +kernel
theorem d_D_end_114 : decode b_D_end 114 = .ok (.dup2, 1) := by decide +kernel
theorem d_D_end_115 : decode b_D_end 115 = .ok (.iaload, 1) := by decide +kernel
theorem d_D_end_116 : decode b_D_end 116 = .ok (.iconst 1, 1) := by decide +kernel
theorem d_D_end_117 : decode b_D_end 117 = .ok (.iadd, 1) := by decide +kernel
theorem d_D_end_118 : decode b_D_end 118 = .ok (.iastore, 1) := by decide +kernel
theorem d_D_end_119 : decode b_D_end 119 = .ok (.aload_n 0, 1) := by decide +kernel
theorem d_D_end_120 : decode b_D_end 120 = .ok (.iload_n 3, 1) := by decide +kernel
theorem d_D_end_121 : decode b_D_end 121 = .ok (.aload_n 0, 1) := by decide +kernel
theorem d_D_end_122 : decode b_D_end 122 = .ok (.getfield 84, 3) := by decide +kernel
theorem d_D_end_125 : decode b_D_end 125 = .ok (.if_icmp .le 7, 3) := by decide +kernel
theorem d_D_end_128 : decode b_D_end 128 = .ok (.iload_n 3, 1) := by decide +kernel
theorem d_D_end_129 : decode b_D_end 129 = .ok (.goto 7, 3) := by decide +kernel
theorem d_D_end_132 : decode b_D_end 132 = .ok (.aload_n 0, 1) := by decide +kernel
theorem d_D_end_133 : decode b_D_end 133 = .ok (.getfield 84, 3) := by decide +kernel
theorem d_D_end_136 : decode b_D_end 136 = .ok (.putfield 84, 3) := by decide +kernel
theorem d_D_end_139 : decode b_D_end 139 = .ok (.aload_n 0, 1) := by decide +kernel
theorem d_D_end_140 : decode b_D_end 140 = .ok (.getfield 37, 3) := by decide +kernel
theorem d_D_end_143 : decode b_D_end 143 = .ok (.iload_n 1, 1) := by decide +kernel
theorem d_D_end_144 : decode b_D_end 144 = .ok (.iaload, 1) := by decide +kernel
theorem d_D_end_145 : decode b_D_end 145 = .ok (.ireturn, 1) := by decide +kernel
theorem d_D_papers_0 : decode b_D_papers 0 = .ok (.aload_n 0, 1) := by decide +kernel
theorem d_D_papers_1 : decode b_D_papers 1 = .ok (.iconst 0, 1) := by decide +kernel
theorem d_D_papers_2 : decode b_D_papers 2 = .ok (.putfield 53, 3) := by decide +kernel
theorem d_D_papers_5 : decode b_D_papers 5 = .ok (.aload_n 0, 1) := by decide +kernel
theorem d_D_papers_6 : decode b_D_papers 6 = .ok (.iload_n 1, 1) := by decide +kernel
theorem d_D_papers_7 : decode b_D_papers 7 = .ok (.ldc 110, 2) := by decide +kernel
theorem d_D_papers_9 : decode b_D_papers 9 = .ok (.iand, 1) := by decide +kernel
theorem d_D_papers_10 : decode b_D_papers 10 = .ok (.putfield 111, 3) := by decide +kernel
theorem d_D_papers_13 : decode b_D_papers 13 = .ok (.return_, 1) := by decide +kernel
theorem d_D_isUnder_0 : decode b_D_isUnder 0 = .ok (.iload_n 0, 1) := by decide +kernel
theorem d_D_isUnder_1 : decode b_D_isUnder 1 = .ok (.istore_n 2, 1) := by decide +kernel
theorem d_D_isUnder_2 : decode b_D_isUnder 2 = .ok (.iload_n 2, 1) := by decide +kernel
theorem d_D_isUnder_3 : decode b_D_isUnder 3 = .ok (.iload_n 1, 1) := by decide +kernel
theorem d_D_isUnder_4 : decode b_D_isUnder 4 = .ok (.if_icmp .le 11, 3) := by decide +kernel
theorem d_D_isUnder_7 : decode b_D_isUnder 7 = .ok (.iload_n 2, 1) := by decide +kernel
theorem d_D_isUnder_8 : decode b_D_isUnder 8 = .ok (.bipush 100, 2) := by decide +kernel
theorem d_D_isUnder_10 : decode b_D_isUnder 10 = .ok (.idiv, 1) := by decide +kernel
theorem d_D_isUnder_11 : decode b_D_isUnder 11 = .ok (.istore_n 2, 1) := by decide +kernel
theorem d_D_isUnder_12 : decode b_D_isUnder 12 = .ok (.goto (-10), 3) := by decide +kernel
theorem d_D_isUnder_15 : decode b_D_isUnder 15 = .ok (.iload_n 2, 1) := by decide +kernel
theorem d_D_isUnder_16 : decode b_D_isUnder 16 = .ok (.iload_n 1, 1) := by decide +kernel
theorem d_D_isUnder_17 : decode b_D_isUnder 17 = .ok (.if_icmp .ne 7, 3) := by decide +kernel
theorem d_D_isUnder_20 : decode b_D_isUnder 20 = .ok (.iconst 1, 1) := by decide +kernel
theorem d_D_isUnder_21 : decode b_D_isUnder 21 = .ok (.goto 4, 3) := by decide +kernel
theorem d_D_isUnder_24 : decode b_D_isUnder 24 = .ok (.iconst 0, 1) := by decide +kernel
theorem d_D_isUnder_25 : decode b_D_isUnder 25 = .ok (.ireturn, 1) := by decide +kernel
theorem d_D_lasts_0 : decode b_D_lasts 0 = .ok (.iload_n 2, 1) := by decide +kernel
theorem d_D_lasts_1 : decode b_D_lasts 1 = .ok (.aload_n 0, 1) := by decide +kernel
theorem d_D_lasts_2 : decode b_D_lasts 2 = .ok (.getfield 19, 3) := by decide +kernel
theorem d_D_lasts_5 : decode b_D_lasts 5 = .ok (.iload_n 1, 1) := by decide +kernel
theorem d_D_lasts_6 : decode b_D_lasts 6 = .ok (.iaload, 1) := by decide +kernel
theorem d_D_lasts_7 : decode b_D_lasts 7 = .ok (.if_icmp .lt 17, 3) := by decide +kernel
theorem d_D_lasts_10 : decode b_D_lasts 10 = .ok (.iload_n 2, 1) := by decide +kernel
theorem d_D_lasts_11 : decode b_D_lasts 11 = .ok (.aload_n 0, 1) := by decide +kernel
theorem d_D_lasts_12 : decode b_D_lasts 12 = .ok (.iload_n 1, 1) := by decide +kernel
theorem d_D_lasts_13 : decode b_D_lasts 13 = .ok (.iload_n 3, 1) := by decide +kernel
theorem d_D_lasts_14 : decode b_D_lasts 14 = .ok (.invokevirtual 87, 3) := by decide +kernel
theorem d_D_lasts_17 : decode b_D_lasts 17 = .ok (.if_icmp .gt 7, 3) := by decide +kernel
theorem d_D_lasts_20 : decode b_D_lasts 20 = .ok (.iconst 1, 1) := by decide +kernel
theorem d_D_lasts_21 : decode b_D_lasts 21 = .ok (.goto 4, 3) := by decide +kernel
theorem d_D_lasts_24 : decode b_D_lasts 24 = .ok (.iconst 0, 1) := by decide +kernel
theorem d_D_lasts_25 : decode b_D_lasts 25 = .ok (.ireturn, 1) := by decide +kernel
theorem d_D_isOf_0 : decode b_D_isOf 0 = .ok (.aload_n 0, 1) := by decide +kernel
theorem d_D_isOf_1 : decode b_D_isOf 1 = .ok (.getfield 28, 3) := by decide +kernel
theorem d_D_isOf_4 : decode b_D_isOf 4 = .ok (.iload_n 1, 1) := by decide +kernel
theorem d_D_isOf_5 : decode b_D_isOf 5 = .ok (.iaload, 1) := by decide +kernel
theorem d_D_isOf_6 : decode b_D_isOf 6 = .ok (.iload 5, 2) := by decide +kernel
theorem d_D_isOf_8 : decode b_D_isOf 8 = .ok (.if_icmp .gt 59, 3) := by decide +kernel
theorem d_D_isOf_11 : decode b_D_isOf 11 = .ok (.iload_n 2, 1) := by decide +kernel
theorem d_D_isOf_12 : decode b_D_isOf 12 = .ok (.aload_n 0, 1) := by decide +kernel
theorem d_D_isOf_13 : decode b_D_isOf 13 = .ok (.getfield 13, 3) := by decide +kernel
theorem d_D_isOf_16 : decode b_D_isOf 16 = .ok (.iload_n 1, 1) := by decide +kernel
theorem d_D_isOf_17 : decode b_D_isOf 17 = .ok (.iaload, 1) := by decide +kernel
theorem d_D_isOf_18 : decode b_D_isOf 18 = .ok (.invokestatic 114, 3) := by decide +kernel
theorem d_D_isOf_21 : decode b_D_isOf 21 = .ok (.ifCond .eq 46, 3) := by decide +kernel
theorem d_D_isOf_24 : decode b_D_isOf 24 = .ok (.aload_n 0, 1) := by decide +kernel
theorem d_D_isOf_25 : decode b_D_isOf 25 = .ok (.iload_n 3, 1) := by decide +kernel
theorem d_D_isOf_26 : decode b_D_isOf 26 = .ok (.aload_n 0, 1) := by decide +kernel
theorem d_D_isOf_27 : decode b_D_isOf 27 = .ok (.getfield 16, 3) := by decide +kernel
theorem d_D_isOf_30 : decode b_D_isOf 30 = .ok (.iload_n 1, 1) := by decide +kernel
theorem d_D_isOf_31 : decode b_D_isOf 31 = .ok (.iaload, 1) := by decide +kernel
theorem d_D_isOf_32 : decode b_D_isOf 32 = .ok (.invokevirtual 78, 3) := by decide +kernel
theorem d_D_isOf_35 : decode b_D_isOf 35 = .ok (.ifCond .eq 32, 3) := by decide +kernel
theorem d_D_isOf_38 : decode b_D_isOf 38 = .ok (.aload_n 0, 1) := by decide +kernel
theorem d_D_isOf_39 : decode b_D_isOf 39 = .ok (.getfield 31, 3) := by decide +kernel
theorem d_D_isOf_42 : decode b_D_isOf 42 = .ok (.iload_n 1, 1) := by decide +kernel
theorem d_D_isOf_43 : decode b_D_isOf 43 = .ok (.iaload, 1) := by decide +kernel
theorem d_D_isOf_44 : decode b_D_isOf 44 = .ok (.iload_n 3, 1) := by decide +kernel
theorem d_D_isOf_45 : decode b_D_isOf 45 = .ok (.ishr, 1) := by decide +kernel
theorem d_D_isOf_46 : decode b_D_isOf 46 = .ok (.iconst 1, 1) := by decide +kernel
theorem d_D_isOf_47 : decode b_D_isOf 47 = .ok (.iand, 1) := by decide +kernel
theorem d_D_isOf_48 : decode b_D_isOf 48 = .ok (.ifCond .ne 19, 3) := by decide +kernel
theorem d_D_isOf_51 : decode b_D_isOf 51 = .ok (.aload_n 0, 1) := by decide +kernel
theorem d_D_isOf_52 : decode b_D_isOf 52 = .ok (.iload_n 1, 1) := by decide +kernel
theorem d_D_isOf_53 : decode b_D_isOf 53 = .ok (.iload 4, 2) := by decide +kernel
theorem d_D_isOf_55 : decode b_D_isOf 55 = .ok (.iload 5, 2) := by decide +kernel
theorem d_D_isOf_57 : decode b_D_isOf 57 = .ok (.invokevirtual 117, 3) := by decide +kernel
theorem d_D_isOf_60 : decode b_D_isOf 60 = .ok (.ifCond .eq 7, 3) := by decide +kernel
theorem d_D_isOf_63 : decode b_D_isOf 63 = .ok (.iconst 1, 1) := by decide +kernel
theorem d_D_isOf_64 : decode b_D_isOf 64 = .ok (.goto 4, 3) := by decide +kernel
theorem d_D_isOf_67 : decode b_D_isOf 67 = .ok (.iconst 0, 1) := by decide +kernel
theorem d_D_isOf_68 : decode b_D_isOf 68 = .ok (.ireturn, 1) := by decide +kernel
theorem d_D_beats_0 : decode b_D_beats 0 = .ok (.aload_n 0, 1) := by decide +kernel
theorem d_D_beats_1 : decode b_D_beats 1 = .ok (.getfield 13, 3) := by decide +kernel
theorem d_D_beats_4 : decode b_D_beats 4 = .ok (.iload_n 1, 1) := by decide +kernel
theorem d_D_beats_5 : decode b_D_beats 5 = .ok (.iaload, 1) := by decide +kernel
theorem d_D_beats_6 : decode b_D_beats 6 = .ok (.invokestatic 91, 3) := by decide +kernel
theorem d_D_beats_9 : decode b_D_beats 9 = .ok (.istore_n 3, 1) := by decide +kernel
theorem d_D_beats_10 : decode b_D_beats 10 = .ok (.aload_n 0, 1) := by decide +kernel
theorem d_D_beats_11 : decode b_D_beats 11 = .ok (.getfield 13, 3) := by decide +kernel
theorem d_D_beats_14 : decode b_D_beats 14 = .ok (.iload_n 2, 1) := by decide +kernel
theorem d_D_beats_15 : decode b_D_beats 15 = .ok (.iaload, 1) := by decide +kernel
theorem d_D_beats_16 : decode b_D_beats 16 = .ok (.invokestatic 91, 3) := by decide +kernel
theorem d_D_beats_19 : decode b_D_beats 19 = .ok (.istore 4, 2) := by decide +kernel
theorem d_D_beats_21 : decode b_D_beats 21 = .ok (.aload_n 0, 1) := by decide +kernel
theorem d_D_beats_22 : decode b_D_beats 22 = .ok (.getfield 22, 3) := by decide +kernel
theorem d_D_beats_25 : decode b_D_beats 25 = .ok (.iload_n 1, 1) := by decide +kernel
theorem d_D_beats_26 : decode b_D_beats 26 = .ok (.iaload, 1) := by decide +kernel
theorem d_D_beats_27 : decode b_D_beats 27 = .ok (.aload_n 0, 1) := by decide +kernel
theorem d_D_beats_28 : decode b_D_beats 28 = .ok (.getfield 22, 3) := by decide +kernel
theorem d_D_beats_31 : decode b_D_beats 31 = .ok (.iload_n 2, 1) := by decide +kernel
theorem d_D_beats_32 : decode b_D_beats 32 = .ok (.iaload, 1) := by decide +kernel
theorem d_D_beats_33 : decode b_D_beats 33 = .ok (.if_icmp .ne 34, 3) := by decide +kernel
theorem d_D_beats_36 : decode b_D_beats 36 = .ok (.iload_n 3, 1) := by decide +kernel
theorem d_D_beats_37 : decode b_D_beats 37 = .ok (.iload 4, 2) := by decide +kernel
theorem d_D_beats_39 : decode b_D_beats 39 = .ok (.if_icmp .gt 24, 3) := by decide +kernel
theorem d_D_beats_42 : decode b_D_beats 42 = .ok (.iload_n 3, 1) := by decide +kernel
theorem d_D_beats_43 : decode b_D_beats 43 = .ok (.iload 4, 2) := by decide +kernel
theorem d_D_beats_45 : decode b_D_beats 45 = .ok (.if_icmp .ne 22, 3) := by decide +kernel
theorem d_D_beats_48 : decode b_D_beats 48 = .ok (.aload_n 0, 1) := by decide +kernel
theorem d_D_beats_49 : decode b_D_beats 49 = .ok (.getfield 25, 3) := by decide +kernel
theorem d_D_beats_52 : decode b_D_beats 52 = .ok (.iload_n 1, 1) := by decide +kernel
theorem d_D_beats_53 : decode b_D_beats 53 = .ok (.iaload, 1) := by decide +kernel
theorem d_D_beats_54 : decode b_D_beats 54 = .ok (.aload_n 0, 1) := by decide +kernel
theorem d_D_beats_55 : decode b_D_beats 55 = .ok (.getfield 25, 3) := by decide +kernel
theorem d_D_beats_58 : decode b_D_beats 58 = .ok (.iload_n 2, 1) := by decide +kernel
theorem d_D_beats_59 : decode b_D_beats 59 = .ok (.iaload, 1) := by decide +kernel
theorem d_D_beats_60 : decode b_D_beats 60 = .ok (.if_icmp .le 7, 3) := by decide +kernel
theorem d_D_beats_63 : decode b_D_beats 63 = .ok (.iconst 1, 1) := by decide +kernel
theorem d_D_beats_64 : decode b_D_beats 64 = .ok (.goto 4, 3) := by decide +kernel
theorem d_D_beats_67 : decode b_D_beats 67 = .ok (.iconst 0, 1) := by decide +kernel
theorem d_D_beats_68 : decode b_D_beats 68 = .ok (.ireturn, 1) := by decide +kernel
theorem d_D_apply_0 : decode b_D_apply 0 = .ok (.iload_n 1, 1) := by decide +kernel
theorem d_D_apply_1 : decode b_D_apply 1 = .ok (.invokestatic 91, 3) := by decide +kernel
theorem d_D_apply_4 : decode b_D_apply 4 = .ok (.bipush 6, 2) := by decide +kernel
theorem d_D_apply_6 : decode b_D_apply 6 = .ok (.if_icmp .ne 25, 3) := by decide +kernel
theorem d_D_apply_9 : decode b_D_apply 9 = .ok (.iload_n 2, 1) := by decide +kernel
theorem d_D_apply_10 : decode b_D_apply 10 = .ok (.invokestatic 71, 3) := by decide +kernel
theorem d_D_apply_13 : decode b_D_apply 13 = .ok (.ifCond .eq 18, 3) := by decide +kernel
theorem d_D_apply_16 : decode b_D_apply 16 = .ok (.iload_n 3, 1) := by decide +kernel
theorem d_D_apply_17 : decode b_D_apply 17 = .ok (.invokestatic 94, 3) := by decide +kernel
theorem d_D_apply_20 : decode b_D_apply 20 = .ok (.ifCond .eq 11, 3) := by decide +kernel
theorem d_D_apply_23 : decode b_D_apply 23 = .ok (.iload 4, 2) := by decide +kernel
theorem d_D_apply_25 : decode b_D_apply 25 = .ok (.invokestatic 94, 3) := by decide +kernel
theorem d_D_apply_28 : decode b_D_apply 28 = .ok (.ifCond .ne 9, 3) := by decide +kernel
theorem d_D_apply_31 : decode b_D_apply 31 = .ok (.aload_n 0, 1) := by decide +kernel
theorem d_D_apply_32 : decode b_D_apply 32 = .ok (.iconst 1, 1) := by decide +kernel
theorem d_D_apply_33 : decode b_D_apply 33 = .ok (.invokevirtual 97, 3) := by decide +kernel
theorem d_D_apply_36 : decode b_D_apply 36 = .ok (.ireturn, 1) := by decide +kernel
theorem d_D_apply_37 : decode b_D_apply 37 = .ok (.aload_n 0, 1) := by decide +kernel
theorem d_D_apply_38 : decode b_D_apply 38 = .ok (.iconst 0, 1) := by decide +kernel
theorem d_D_apply_39 : decode b_D_apply 39 = .ok (.putfield 53, 3) := by decide +kernel
theorem d_D_apply_42 : decode b_D_apply 42 = .ok (.iconst 1, 1) := by decide +kernel
theorem d_D_apply_43 : decode b_D_apply 43 = .ok (.istore 5, 2) := by decide +kernel
theorem d_D_apply_45 : decode b_D_apply 45 = .ok (.iload 5, 2) := by decide +kernel
theorem d_D_apply_47 : decode b_D_apply 47 = .ok (.aload_n 0, 1) := by decide +kernel
theorem d_D_apply_48 : decode b_D_apply 48 = .ok (.getfield 81, 3) := by decide +kernel
theorem d_D_apply_51 : decode b_D_apply 51 = .ok (.if_icmp .gt 60, 3) := by decide +kernel
theorem d_D_apply_54 : decode b_D_apply 54 = .ok (.aload_n 0, 1) := by decide +kernel
theorem d_D_apply_55 : decode b_D_apply 55 = .ok (.getfield 49, 3) := by decide +kernel
theorem d_D_apply_58 : decode b_D_apply 58 = .ok (.iload 5, 2) := by decide +kernel
theorem d_D_apply_60 : decode b_D_apply 60 = .ok (.aload_n 0, 1) := by decide +kernel
theorem d_D_apply_61 : decode b_D_apply 61 = .ok (.iload 5, 2) := by decide +kernel
theorem d_D_apply_63 : decode b_D_apply 63 = .ok (.iload_n 1, 1) := by decide +kernel
theorem d_D_apply_64 : decode b_D_apply 64 = .ok (.iload_n 2, 1) := by decide +kernel
theorem d_D_apply_65 : decode b_D_apply 65 = .ok (.iload_n 3, 1) := by decide +kernel
theorem d_D_apply_66 : decode b_D_apply 66 = .ok (.iload 4, 2) := by decide +kernel
theorem d_D_apply_68 : decode b_D_apply 68 = .ok (.invokevirtual 120, 3) := by decide +kernel
theorem d_D_apply_71 : decode b_D_apply 71 = .ok (.ifCond .eq 32, 3) := by decide +kernel
theorem d_D_apply_74 : decode b_D_apply 74 = .ok (.aload_n 0, 1) := by decide +kernel
theorem d_D_apply_75 : decode b_D_apply 75 = .ok (.getfield 34, 3) := by decide +kernel
theorem d_D_apply_78 : decode b_D_apply 78 = .ok (.iload 5, 2) := by decide +kernel
theorem d_D_apply_80 : decode b_D_apply 80 = .ok (.iaload, 1) := by decide +kernel
theorem d_D_apply_81 : decode b_D_apply 81 = .ok (.ifCond .eq 18, 3) := by decide +kernel
theorem d_D_apply_84 : decode b_D_apply 84 = .ok (.aload_n 0, 1) := by decide +kernel
theorem d_D_apply_85 : decode b_D_apply 85 = .ok (.getfield 34, 3) := by decide +kernel
theorem d_D_apply_88 : decode b_D_apply 88 = .ok (.iload 5, 2) := by decide +kernel
theorem d_D_apply_90 : decode b_D_apply 90 = .ok (.iaload, 1) := by decide +kernel
theorem d_D_apply_91 : decode b_D_apply 91 = .ok (.aload_n 0, 1) := by decide +kernel
theorem d_D_apply_92 : decode b_D_apply 92 = .ok (.getfield 111, 3) := by decide +kernel
theorem d_D_apply_95 : decode b_D_apply 95 = .ok (.iand, 1) := by decide +kernel
theorem d_D_apply_96 : decode b_D_apply 96 = .ok (.ifCond .eq 7, 3) := by decide +kernel
theorem d_D_apply_99 : decode b_D_apply 99 = .ok (.iconst 1, 1) := by decide +kernel
theorem d_D_apply_100 : decode b_D_apply 100 = .ok (.goto 4, 3) := by decide +kernel
theorem d_D_apply_103 : decode b_D_apply 103 = .ok (.iconst 0, 1) := by decide +kernel
theorem d_D_apply_104 : decode b_D_apply 104 = .ok (.bastore, 1) := by decide +kernel
theorem d_D_apply_105 : decode b_D_apply 105 = .ok (.iinc 5 1, 3) := by decide +kernel
theorem d_D_apply_108 : decode b_D_apply 108 = .ok (.goto (-63), 3) := by decide +kernel
theorem d_D_apply_111 : decode b_D_apply 111 = .ok (.aload_n 0, 1) := by decide +kernel
theorem d_D_apply_112 : decode b_D_apply 112 = .ok (.iconst 0, 1) := by decide +kernel
theorem d_D_apply_113 : decode b_D_apply 113 = .ok (.putfield 124, 3) := by decide +kernel
theorem d_D_apply_116 : decode b_D_apply 116 = .ok (.iconst 0, 1) := by decide +kernel
theorem d_D_apply_117 : decode b_D_apply 117 = .ok (.istore 5, 2) := by decide +kernel
theorem d_D_apply_119 : decode b_D_apply 119 = .ok (.iload 5, 2) := by decide +kernel
theorem d_D_apply_121 : decode b_D_apply 121 = .ok (.bipush 8, 2) := by decide +kernel
theorem d_D_apply_123 : decode b_D_apply 123 = .ok (.if_icmp .ge 139, 3) := by decide +kernel
theorem d_D_apply_126 : decode b_D_apply 126 = .ok (.iconst 1, 1) := by decide +kernel
theorem d_D_apply_127 : decode b_D_apply 127 = .ok (.istore 6, 2) := by decide +kernel
theorem d_D_apply_129 : decode b_D_apply 129 = .ok (.iload 6, 2) := by decide +kernel
theorem d_D_apply_131 : decode b_D_apply 131 = .ok (.aload_n 0, 1) := by decide +kernel
theorem d_D_apply_132 : decode b_D_apply 132 = .ok (.getfield 81, 3) := by decide +kernel
theorem d_D_apply_135 : decode b_D_apply 135 = .ok (.if_icmp .gt 121, 3) := by decide +kernel
theorem d_D_apply_138 : decode b_D_apply 138 = .ok (.aload_n 0, 1) := by decide +kernel
theorem d_D_apply_139 : decode b_D_apply 139 = .ok (.getfield 49, 3) := by decide +kernel
theorem d_D_apply_142 : decode b_D_apply 142 = .ok (.iload 6, 2) := by decide +kernel
theorem d_D_apply_144 : decode b_D_apply 144 = .ok (.baload, 1) := by decide +kernel
theorem d_D_apply_145 : decode b_D_apply 145 = .ok (.ifCond .eq 19, 3) := by decide +kernel
theorem d_D_apply_148 : decode b_D_apply 148 = .ok (.aload_n 0, 1) := by decide +kernel
theorem d_D_apply_149 : decode b_D_apply 149 = .ok (.getfield 22, 3) := by decide +kernel
theorem d_D_apply_152 : decode b_D_apply 152 = .ok (.iload 6, 2) := by decide +kernel
theorem d_D_apply_154 : decode b_D_apply 154 = .ok (.iaload, 1) := by decide +kernel
theorem d_D_apply_155 : decode b_D_apply 155 = .ok (.iload 5, 2) := by decide +kernel
theorem d_D_apply_157 : decode b_D_apply 157 = .ok (.if_icmp .ne 7, 3) := by decide +kernel
theorem d_D_apply_160 : decode b_D_apply 160 = .ok (.iconst 1, 1) := by decide +kernel
theorem d_D_apply_161 : decode b_D_apply 161 = .ok (.goto 4, 3) := by decide +kernel
theorem d_D_apply_164 : decode b_D_apply 164 = .ok (.iconst 0, 1) := by decide +kernel
theorem d_D_apply_165 : decode b_D_apply 165 = .ok (.istore 7, 2) := by decide +kernel
theorem d_D_apply_167 : decode b_D_apply 167 = .ok (.iconst 1, 1) := by decide +kernel
theorem d_D_apply_168 : decode b_D_apply 168 = .ok (.istore 8, 2) := by decide +kernel
theorem d_D_apply_170 : decode b_D_apply 170 = .ok (.iload 8, 2) := by decide +kernel
theorem d_D_apply_172 : decode b_D_apply 172 = .ok (.aload_n 0, 1) := by decide +kernel
theorem d_D_apply_173 : decode b_D_apply 173 = .ok (.getfield 81, 3) := by decide +kernel
theorem d_D_apply_176 : decode b_D_apply 176 = .ok (.if_icmp .gt 48, 3) := by decide +kernel
theorem d_D_apply_179 : decode b_D_apply 179 = .ok (.iload 5, 2) := by decide +kernel
theorem d_D_apply_181 : decode b_D_apply 181 = .ok (.iconst 4, 1) := by decide +kernel
theorem d_D_apply_182 : decode b_D_apply 182 = .ok (.if_icmp .ge 42, 3) := by decide +kernel
theorem d_D_apply_185 : decode b_D_apply 185 = .ok (.iload 7, 2) := by decide +kernel
theorem d_D_apply_187 : decode b_D_apply 187 = .ok (.ifCond .eq 28, 3) := by decide +kernel
theorem d_D_apply_190 : decode b_D_apply 190 = .ok (.aload_n 0, 1) := by decide +kernel
theorem d_D_apply_191 : decode b_D_apply 191 = .ok (.getfield 49, 3) := by decide +kernel
theorem d_D_apply_194 : decode b_D_apply 194 = .ok (.iload 8, 2) := by decide +kernel
theorem d_D_apply_196 : decode b_D_apply 196 = .ok (.baload, 1) := by decide +kernel
theorem d_D_apply_197 : decode b_D_apply 197 = .ok (.ifCond .eq 14, 3) := by decide +kernel
theorem d_D_apply_200 : decode b_D_apply 200 = .ok (.aload_n 0, 1) := by decide +kernel
theorem d_D_apply_201 : decode b_D_apply 201 = .ok (.iload 8, 2) := by decide +kernel
theorem d_D_apply_203 : decode b_D_apply 203 = .ok (.iload 6, 2) := by decide +kernel
theorem d_D_apply_205 : decode b_D_apply 205 = .ok (.invokevirtual 127, 3) := by decide +kernel
theorem d_D_apply_208 : decode b_D_apply 208 = .ok (.ifCond .ne 7, 3) := by decide +kernel
theorem d_D_apply_211 : decode b_D_apply 211 = .ok (.iconst 1, 1) := by decide +kernel
theorem d_D_apply_212 : decode b_D_apply 212 = .ok (.goto 4, 3) := by decide +kernel
theorem d_D_apply_215 : decode b_D_apply 215 = .ok (.iconst 0, 1) := by decide +kernel
theorem d_D_apply_216 : decode b_D_apply 216 = .ok (.istore 7, 2) := by decide +kernel
theorem d_D_apply_218 : decode b_D_apply 218 = .ok (.iinc 8 1, 3) := by decide +kernel
theorem d_D_apply_221 : decode b_D_apply 221 = .ok (.goto (-51), 3) := by decide +kernel
theorem d_D_apply_224 : decode b_D_apply 224 = .ok (.iload 7, 2) := by decide +kernel
theorem d_D_apply_226 : decode b_D_apply 226 = .ok (.ifCond .eq 24, 3) := by decide +kernel
theorem d_D_apply_229 : decode b_D_apply 229 = .ok (.aload_n 0, 1) := by decide +kernel
theorem d_D_apply_230 : decode b_D_apply 230 = .ok (.getfield 46, 3) := by decide +kernel
theorem d_D_apply_233 : decode b_D_apply 233 = .ok (.aload_n 0, 1) := by decide +kernel
theorem d_D_apply_234 : decode b_D_apply 234 = .ok (.getfield 124, 3) := by decide +kernel
theorem d_D_apply_237 : decode b_D_apply 237 = .ok (.iload 6, 2) := by decide +kernel
theorem d_D_apply_239 : decode b_D_apply 239 = .ok (.iastore, 1) := by decide +kernel
theorem d_D_apply_240 : decode b_D_apply 240 = .ok (.aload_n 0, 1) := by decide +kernel
theorem d_D_apply_241 : decode b_D_apply 241 = .ok (.dup, 1) := by decide +kernel
theorem d_D_apply_242 : decode b_D_apply 242 = .ok (.getfield 124, 3) := by decide +kernel
theorem d_D_apply_245 : decode b_D_apply 245 = .ok (.iconst 1, 1) := by decide +kernel
theorem d_D_apply_246 : decode b_D_apply 246 = .ok (.iadd, 1) := by decide +kernel
theorem d_D_apply_247 : decode b_D_apply 247 = .ok (.putfield 124, 3) := by decide +kernel
theorem d_D_apply_250 : decode b_D_apply 250 = .ok (.iinc 6 1, 3) := by decide +kernel
theorem d_D_apply_253 : decode b_D_apply 253 = .ok (.goto (-124), 3) := by decide +kernel
theorem d_D_apply_256 : decode b_D_apply 256 = .ok (.iinc 5 1, 3) := by decide +kernel
theorem d_D_apply_259 : decode b_D_apply 259 = .ok (.goto (-140), 3) := by decide +kernel
theorem d_D_apply_262 : decode b_D_apply 262 = .ok (.aload_n 0, 1) := by decide +kernel
theorem d_D_apply_263 : decode b_D_apply 263 = .ok (.getfield 124, 3) := by decide +kernel
theorem d_D_apply_266 : decode b_D_apply 266 = .ok (.ireturn, 1) := by decide +kernel
theorem d_D_at_0 : decode b_D_at 0 = .ok (.aload_n 0, 1) := by decide +kernel
theorem d_D_at_1 : decode b_D_at 1 = .ok (.iconst 0, 1) := by decide +kernel
theorem d_D_at_2 : decode b_D_at 2 = .ok (.putfield 53, 3) := by decide +kernel
theorem d_D_at_5 : decode b_D_at 5 = .ok (.iload_n 1, 1) := by decide +kernel
theorem d_D_at_6 : decode b_D_at 6 = .ok (.ifCond .lt 20, 3) := by decide +kernel
theorem d_D_at_9 : decode b_D_at 9 = .ok (.iload_n 1, 1) := by decide +kernel
theorem d_D_at_10 : decode b_D_at 10 = .ok (.aload_n 0, 1) := by decide +kernel
theorem d_D_at_11 : decode b_D_at 11 = .ok (.getfield 124, 3) := by decide +kernel
theorem d_D_at_14 : decode b_D_at 14 = .ok (.if_icmp .ge 12, 3) := by decide +kernel
theorem d_D_at_17 : decode b_D_at 17 = .ok (.aload_n 0, 1) := by decide +kernel
theorem d_D_at_18 : decode b_D_at 18 = .ok (.getfield 46, 3) := by decide +kernel
theorem d_D_at_21 : decode b_D_at 21 = .ok (.iload_n 1, 1) := by decide +kernel
theorem d_D_at_22 : decode b_D_at 22 = .ok (.iaload, 1) := by decide +kernel
theorem d_D_at_23 : decode b_D_at 23 = .ok (.goto 4, 3) := by decide +kernel
theorem d_D_at_26 : decode b_D_at 26 = .ok (.iconst (-1), 1) := by decide +kernel
theorem d_D_at_27 : decode b_D_at 27 = .ok (.ireturn, 1) := by decide +kernel
theorem d_D_scan_0 : decode b_D_scan 0 = .ok (.iload_n 1, 1) := by decide +kernel
theorem d_D_scan_1 : decode b_D_scan 1 = .ok (.invokestatic 91, 3) := by decide +kernel
theorem d_D_scan_4 : decode b_D_scan 4 = .ok (.ifCond .eq 17, 3) := by decide +kernel
theorem d_D_scan_7 : decode b_D_scan 7 = .ok (.iload_n 2, 1) := by decide +kernel
theorem d_D_scan_8 : decode b_D_scan 8 = .ok (.invokestatic 71, 3) := by decide +kernel
theorem d_D_scan_11 : decode b_D_scan 11 = .ok (.ifCond .eq 10, 3) := by decide +kernel
theorem d_D_scan_14 : decode b_D_scan 14 = .ok (.iload_n 3, 1) := by decide +kernel
theorem d_D_scan_15 : decode b_D_scan 15 = .ok (.invokestatic 94, 3) := by decide +kernel
theorem d_D_scan_18 : decode b_D_scan 18 = .ok (.ifCond .ne 9, 3) := by decide +kernel
theorem d_D_scan_21 : decode b_D_scan 21 = .ok (.aload_n 0, 1) := by decide +kernel
theorem d_D_scan_22 : decode b_D_scan 22 = .ok (.iconst 1, 1) := by decide +kernel
theorem d_D_scan_23 : decode b_D_scan 23 = .ok (.invokevirtual 97, 3) := by decide +kernel
theorem d_D_scan_26 : decode b_D_scan 26 = .ok (.ireturn, 1) := by decide +kernel
theorem d_D_scan_27 : decode b_D_scan 27 = .ok (.aload_n 0, 1) := by decide +kernel
theorem d_D_scan_28 : decode b_D_scan 28 = .ok (.iconst 0, 1) := by decide +kernel
theorem d_D_scan_29 : decode b_D_scan 29 = .ok (.putfield 53, 3) := by decide +kernel
theorem d_D_scan_32 : decode b_D_scan 32 = .ok (.aload_n 0, 1) := by decide +kernel
theorem d_D_scan_33 : decode b_D_scan 33 = .ok (.iconst 0, 1) := by decide +kernel
theorem d_D_scan_34 : decode b_D_scan 34 = .ok (.putfield 124, 3) := by decide +kernel
theorem d_D_scan_37 : decode b_D_scan 37 = .ok (.iconst 1, 1) := by decide +kernel
theorem d_D_scan_38 : decode b_D_scan 38 = .ok (.istore 4, 2) := by decide +kernel
theorem d_D_scan_40 : decode b_D_scan 40 = .ok (.iload 4, 2) := by decide +kernel
theorem d_D_scan_42 : decode b_D_scan 42 = .ok (.aload_n 0, 1) := by decide +kernel
theorem d_D_scan_43 : decode b_D_scan 43 = .ok (.getfield 81, 3) := by decide +kernel
theorem d_D_scan_46 : decode b_D_scan 46 = .ok (.if_icmp .gt 46, 3) := by decide +kernel
theorem d_D_scan_49 : decode b_D_scan 49 = .ok (.aload_n 0, 1) := by decide +kernel
theorem d_D_scan_50 : decode b_D_scan 50 = .ok (.iload 4, 2) := by decide +kernel
theorem d_D_scan_52 : decode b_D_scan 52 = .ok (.iload_n 1, 1) := by decide +kernel
theorem d_D_scan_53 : decode b_D_scan 53 = .ok (.iload_n 2, 1) := by decide +kernel
theorem d_D_scan_54 : decode b_D_scan 54 = .ok (.iload_n 3, 1) := by decide +kernel
theorem d_D_scan_55 : decode b_D_scan 55 = .ok (.aload_n 0, 1) := by decide +kernel
theorem d_D_scan_56 : decode b_D_scan 56 = .ok (.getfield 84, 3) := by decide +kernel
theorem d_D_scan_59 : decode b_D_scan 59 = .ok (.invokevirtual 120, 3) := by decide +kernel
theorem d_D_scan_62 : decode b_D_scan 62 = .ok (.ifCond .eq 24, 3) := by decide +kernel
theorem d_D_scan_65 : decode b_D_scan 65 = .ok (.aload_n 0, 1) := by decide +kernel
theorem d_D_scan_66 : decode b_D_scan 66 = .ok (.getfield 46, 3) := by decide +kernel
theorem d_D_scan_69 : decode b_D_scan 69 = .ok (.aload_n 0, 1) := by decide +kernel
theorem d_D_scan_70 : decode b_D_scan 70 = .ok (.getfield 124, 3) := by decide +kernel
theorem d_D_scan_73 : decode b_D_scan 73 = .ok (.iload 4, 2) := by decide +kernel
theorem d_D_scan_75 : decode b_D_scan 75 = .ok (.iastore, 1) := by decide +kernel
theorem d_D_scan_76 : decode b_D_scan 76 = .ok (.aload_n 0, 1) := by decide +kernel
theorem d_D_scan_77 : decode b_D_scan 77 = .ok (.dup, 1) := by decide +kernel
theorem d_D_scan_78 : decode b_D_scan 78 = .ok (.getfield 124, 3) := by decide +kernel
theorem d_D_scan_81 : decode b_D_scan 81 = .ok (.iconst 1, 1) := by decide +kernel
theorem d_D_scan_82 : decode b_D_scan 82 = .ok (.iadd, 1) := by decide +kernel
theorem d_D_scan_83 : decode b_D_scan 83 = .ok (.putfield 124, 3) := by decide +kernel
theorem d_D_scan_86 : decode b_D_scan 86 = .ok (.iinc 4 1, 3) := by decide +kernel
theorem d_D_scan_89 : decode b_D_scan 89 = .ok (.goto (-49), 3) := by decide +kernel
theorem d_D_scan_92 : decode b_D_scan 92 = .ok (.aload_n 0, 1) := by decide +kernel
theorem d_D_scan_93 : decode b_D_scan 93 = .ok (.getfield 124, 3) := by decide +kernel
theorem d_D_scan_96 : decode b_D_scan 96 = .ok (.ireturn, 1) := by decide +kernel
theorem d_D_change_0 : decode b_D_change 0 = .ok (.iload_n 1, 1) := by decide +kernel
theorem d_D_change_1 : decode b_D_change 1 = .ok (.invokestatic 94, 3) := by decide +kernel
theorem d_D_change_4 : decode b_D_change 4 = .ok (.ifCond .eq 10, 3) := by decide +kernel
theorem d_D_change_7 : decode b_D_change 7 = .ok (.iload_n 2, 1) := by decide +kernel
theorem d_D_change_8 : decode b_D_change 8 = .ok (.invokestatic 94, 3) := by decide +kernel
theorem d_D_change_11 : decode b_D_change 11 = .ok (.ifCond .ne 9, 3) := by decide +kernel
theorem d_D_change_14 : decode b_D_change 14 = .ok (.aload_n 0, 1) := by decide +kernel
theorem d_D_change_15 : decode b_D_change 15 = .ok (.iconst 1, 1) := by decide +kernel
theorem d_D_change_16 : decode b_D_change 16 = .ok (.invokevirtual 97, 3) := by decide +kernel
theorem d_D_change_19 : decode b_D_change 19 = .ok (.ireturn, 1) := by decide +kernel
theorem d_D_change_20 : decode b_D_change 20 = .ok (.aload_n 0, 1) := by decide +kernel
theorem d_D_change_21 : decode b_D_change 21 = .ok (.iconst 0, 1) := by decide +kernel
theorem d_D_change_22 : decode b_D_change 22 = .ok (.putfield 53, 3) := by decide +kernel
theorem d_D_change_25 : decode b_D_change 25 = .ok (.iconst 0, 1) := by decide +kernel
theorem d_D_change_26 : decode b_D_change 26 = .ok (.istore 4, 2) := by decide +kernel
theorem d_D_change_28 : decode b_D_change 28 = .ok (.iconst 1, 1) := by decide +kernel
theorem d_D_change_29 : decode b_D_change 29 = .ok (.istore 5, 2) := by decide +kernel
theorem d_D_change_31 : decode b_D_change 31 = .ok (.iload 5, 2) := by decide +kernel
theorem d_D_change_33 : decode b_D_change 33 = .ok (.aload_n 0, 1) := by decide +kernel
theorem d_D_change_34 : decode b_D_change 34 = .ok (.getfield 81, 3) := by decide +kernel
theorem d_D_change_37 : decode b_D_change 37 = .ok (.if_icmp .gt 46, 3) := by decide +kernel
theorem d_D_change_40 : decode b_D_change 40 = .ok (.aload_n 0, 1) := by decide +kernel
theorem d_D_change_41 : decode b_D_change 41 = .ok (.iload 5, 2) := by decide +kernel
theorem d_D_change_43 : decode b_D_change 43 = .ok (.iload_n 1, 1) := by decide +kernel
theorem d_D_change_44 : decode b_D_change 44 = .ok (.aload_n 0, 1) := by decide +kernel
theorem d_D_change_45 : decode b_D_change 45 = .ok (.getfield 84, 3) := by decide +kernel
theorem d_D_change_48 : decode b_D_change 48 = .ok (.invokevirtual 117, 3) := by decide +kernel
theorem d_D_change_51 : decode b_D_change 51 = .ok (.aload_n 0, 1) := by decide +kernel
theorem d_D_change_52 : decode b_D_change 52 = .ok (.iload 5, 2) := by decide +kernel
theorem d_D_change_54 : decode b_D_change 54 = .ok (.iload_n 2, 1) := by decide +kernel
theorem d_D_change_55 : decode b_D_change 55 = .ok (.aload_n 0, 1) := by decide +kernel
theorem d_D_change_56 : decode b_D_change 56 = .ok (.getfield 84, 3) := by decide +kernel
theorem d_D_change_59 : decode b_D_change 59 = .ok (.invokevirtual 117, 3) := by decide +kernel
theorem d_D_change_62 : decode b_D_change 62 = .ok (.if_icmp .eq 15, 3) := by decide +kernel
theorem d_D_change_65 : decode b_D_change 65 = .ok (.iload 4, 2) := by decide +kernel
theorem d_D_change_67 : decode b_D_change 67 = .ok (.iload_n 3, 1) := by decide +kernel
theorem d_D_change_68 : decode b_D_change 68 = .ok (.if_icmp .ne 6, 3) := by decide +kernel
theorem d_D_change_71 : decode b_D_change 71 = .ok (.iload 5, 2) := by decide +kernel
theorem d_D_change_73 : decode b_D_change 73 = .ok (.ireturn, 1) := by decide +kernel
theorem d_D_change_74 : decode b_D_change 74 = .ok (.iinc 4 1, 3) := by decide +kernel
theorem d_D_change_77 : decode b_D_change 77 = .ok (.iinc 5 1, 3) := by decide +kernel
theorem d_D_change_80 : decode b_D_change 80 = .ok (.goto (-49), 3) := by decide +kernel
theorem d_D_change_83 : decode b_D_change 83 = .ok (.iconst (-1), 1) := by decide +kernel
theorem d_D_change_84 : decode b_D_change 84 = .ok (.ireturn, 1) := by decide +kernel
theorem d_D_look_0 : decode b_D_look 0 = .ok (.aload_n 0, 1) := by decide +kernel
theorem d_D_look_1 : decode b_D_look 1 = .ok (.iload_n 1, 1) := by decide +kernel
theorem d_D_look_2 : decode b_D_look 2 = .ok (.invokevirtual 104, 3) := by decide +kernel
theorem d_D_look_5 : decode b_D_look 5 = .ok (.ifCond .eq 13, 3) := by decide +kernel
theorem d_D_look_8 : decode b_D_look 8 = .ok (.iload_n 2, 1) := by decide +kernel
theorem d_D_look_9 : decode b_D_look 9 = .ok (.iconst 0, 1) := by decide +kernel
theorem d_D_look_10 : decode b_D_look 10 = .ok (.bipush 9, 2) := by decide +kernel
theorem d_D_look_12 : decode b_D_look 12 = .ok (.invokestatic 57, 3) := by decide +kernel
theorem d_D_look_15 : decode b_D_look 15 = .ok (.ifCond .ne 9, 3) := by decide +kernel
theorem d_D_look_18 : decode b_D_look 18 = .ok (.aload_n 0, 1) := by decide +kernel
theorem d_D_look_19 : decode b_D_look 19 = .ok (.iconst 1, 1) := by decide +kernel
theorem d_D_look_20 : decode b_D_look 20 = .ok (.invokevirtual 97, 3) := by decide +kernel
theorem d_D_look_23 : decode b_D_look 23 = .ok (.ireturn, 1) := by decide +kernel
theorem d_D_look_24 : decode b_D_look 24 = .ok (.aload_n 0, 1) := by decide +kernel
theorem d_D_look_25 : decode b_D_look 25 = .ok (.iconst 0, 1) := by decide +kernel
theorem d_D_look_26 : decode b_D_look 26 = .ok (.putfield 53, 3) := by decide +kernel
theorem d_D_look_29 : decode b_D_look 29 = .ok (.iload_n 2, 1) := by decide +kernel
theorem d_D_look_30 : decode b_D_look 30 = .ok (.tableswitch 119 0 8 #[50, 57, 64, 71, 81, 88, 95, 102, 109], 50) := by decide +kernel
theorem d_D_look_80 : decode b_D_look 80 = .ok (.aload_n 0, 1) := by decide +kernel
theorem d_D_look_81 : decode b_D_look 81 = .ok (.getfield 13, 3) := by decide +kernel
theorem d_D_look_84 : decode b_D_look 84 = .ok (.iload_n 1, 1) := by decide +kernel
theorem d_D_look_85 : decode b_D_look 85 = .ok (.iaload, 1) := by decide +kernel
theorem d_D_look_86 : decode b_D_look 86 = .ok (.ireturn, 1) := by decide +kernel
theorem d_D_look_87 : decode b_D_look 87 = .ok (.aload_n 0, 1) := by decide +kernel
theorem d_D_look_88 : decode b_D_look 88 = .ok (.getfield 16, 3) := by decide +kernel
theorem d_D_look_91 : decode b_D_look 91 = .ok (.iload_n 1, 1) := by decide +kernel
theorem d_D_look_92 : decode b_D_look 92 = .ok (.iaload, 1) := by decide +kernel
theorem d_D_look_93 : decode b_D_look 93 = .ok (.ireturn, 1) := by decide +kernel
theorem d_D_look_94 : decode b_D_look 94 = .ok (.aload_n 0, 1) := by decide +kernel
theorem d_D_look_95 : decode b_D_look 95 = .ok (.getfield 19, 3) := by decide +kernel
theorem d_D_look_98 : decode b_D_look 98 = .ok (.iload_n 1, 1) := by decide +kernel
theorem d_D_look_99 : decode b_D_look 99 = .ok (.iaload, 1) := by decide +kernel
theorem d_D_look_100 : decode b_D_look 100 = .ok (.ireturn, 1) := by decide +kernel
theorem d_D_look_101 : decode b_D_look 101 = .ok (.aload_n 0, 1) := by decide +kernel
theorem d_D_look_102 : decode b_D_look 102 = .ok (.iload_n 1, 1) := by decide +kernel
theorem d_D_look_103 : decode b_D_look 103 = .ok (.aload_n 0, 1) := by decide +kernel
theorem d_D_look_104 : decode b_D_look 104 = .ok (.getfield 84, 3) := by decide +kernel
theorem d_D_look_107 : decode b_D_look 107 = .ok (.invokevirtual 87, 3) := by decide +kernel
theorem d_D_look_110 : decode b_D_look 110 = .ok (.ireturn, 1) := by decide +kernel
theorem d_D_look_111 : decode b_D_look 111 = .ok (.aload_n 0, 1) := by decide +kernel
theorem d_D_look_112 : decode b_D_look 112 = .ok (.getfield 22, 3) := by decide +kernel
theorem d_D_look_115 : decode b_D_look 115 = .ok (.iload_n 1, 1) := by decide +kernel
theorem d_D_look_116 : decode b_D_look 116 = .ok (.iaload, 1) := by decide +kernel
theorem d_D_look_117 : decode b_D_look 117 = .ok (.ireturn, 1) := by decide +kernel
theorem d_D_look_118 : decode b_D_look 118 = .ok (.aload_n 0, 1) := by decide +kernel
theorem d_D_look_119 : decode b_D_look 119 = .ok (.getfield 25, 3) := by decide +kernel
theorem d_D_look_122 : decode b_D_look 122 = .ok (.iload_n 1, 1) := by decide +kernel
theorem d_D_look_123 : decode b_D_look 123 = .ok (.iaload, 1) := by decide +kernel
theorem d_D_look_124 : decode b_D_look 124 = .ok (.ireturn, 1) := by decide +kernel
theorem d_D_look_125 : decode b_D_look 125 = .ok (.aload_n 0, 1) := by decide +kernel
theorem d_D_look_126 : decode b_D_look 126 = .ok (.getfield 28, 3) := by decide +kernel
theorem d_D_look_129 : decode b_D_look 129 = .ok (.iload_n 1, 1) := by decide +kernel
theorem d_D_look_130 : decode b_D_look 130 = .ok (.iaload, 1) := by decide +kernel
theorem d_D_look_131 : decode b_D_look 131 = .ok (.ireturn, 1) := by decide +kernel
theorem d_D_look_132 : decode b_D_look 132 = .ok (.aload_n 0, 1) := by decide +kernel
theorem d_D_look_133 : decode b_D_look 133 = .ok (.getfield 37, 3) := by decide +kernel
theorem d_D_look_136 : decode b_D_look 136 = .ok (.iload_n 1, 1) := by decide +kernel
theorem d_D_look_137 : decode b_D_look 137 = .ok (.iaload, 1) := by decide +kernel
theorem d_D_look_138 : decode b_D_look 138 = .ok (.ireturn, 1) := by decide +kernel
theorem d_D_look_139 : decode b_D_look 139 = .ok (.aload_n 0, 1) := by decide +kernel
theorem d_D_look_140 : decode b_D_look 140 = .ok (.getfield 31, 3) := by decide +kernel
theorem d_D_look_143 : decode b_D_look 143 = .ok (.iload_n 1, 1) := by decide +kernel
theorem d_D_look_144 : decode b_D_look 144 = .ok (.iaload, 1) := by decide +kernel
theorem d_D_look_145 : decode b_D_look 145 = .ok (.invokestatic 107, 3) := by decide +kernel
theorem d_D_look_148 : decode b_D_look 148 = .ok (.ireturn, 1) := by decide +kernel
theorem d_D_look_149 : decode b_D_look 149 = .ok (.aload_n 0, 1) := by decide +kernel
theorem d_D_look_150 : decode b_D_look 150 = .ok (.getfield 34, 3) := by decide +kernel
theorem d_D_look_153 : decode b_D_look 153 = .ok (.iload_n 1, 1) := by decide +kernel
theorem d_D_look_154 : decode b_D_look 154 = .ok (.iaload, 1) := by decide +kernel
theorem d_D_look_155 : decode b_D_look 155 = .ok (.invokestatic 107, 3) := by decide +kernel
theorem d_D_look_158 : decode b_D_look 158 = .ok (.ireturn, 1) := by decide +kernel
theorem d_D_count_0 : decode b_D_count 0 = .ok (.aload_n 0, 1) := by decide +kernel
theorem d_D_count_1 : decode b_D_count 1 = .ok (.iconst 0, 1) := by decide +kernel
theorem d_D_count_2 : decode b_D_count 2 = .ok (.putfield 53, 3) := by decide +kernel
theorem d_D_count_5 : decode b_D_count 5 = .ok (.iload_n 1, 1) := by decide +kernel
theorem d_D_count_6 : decode b_D_count 6 = .ok (.invokestatic 67, 3) := by decide +kernel
theorem d_D_count_9 : decode b_D_count 9 = .ok (.ifCond .eq 15, 3) := by decide +kernel
theorem d_D_count_12 : decode b_D_count 12 = .ok (.aload_n 0, 1) := by decide +kernel
theorem d_D_count_13 : decode b_D_count 13 = .ok (.iload_n 1, 1) := by decide +kernel
theorem d_D_count_14 : decode b_D_count 14 = .ok (.invokevirtual 63, 3) := by decide +kernel
theorem d_D_count_17 : decode b_D_count 17 = .ok (.ldc 110, 2) := by decide +kernel
theorem d_D_count_19 : decode b_D_count 19 = .ok (.iand, 1) := by decide +kernel
theorem d_D_count_20 : decode b_D_count 20 = .ok (.invokestatic 107, 3) := by decide +kernel
theorem d_D_count_23 : decode b_D_count 23 = .ok (.ireturn, 1) := by decide +kernel
theorem d_D_count_24 : decode b_D_count 24 = .ok (.iload_n 1, 1) := by decide +kernel
theorem d_D_count_25 : decode b_D_count 25 = .ok (.tableswitch 51 0 3 #[31, 36, 41, 46], 31) := by decide +kernel
theorem d_D_count_56 : decode b_D_count 56 = .ok (.aload_n 0, 1) := by decide +kernel
theorem d_D_count_57 : decode b_D_count 57 = .ok (.getfield 81, 3) := by decide +kernel
theorem d_D_count_60 : decode b_D_count 60 = .ok (.ireturn, 1) := by decide +kernel
theorem d_D_count_61 : decode b_D_count 61 = .ok (.aload_n 0, 1) := by decide +kernel
theorem d_D_count_62 : decode b_D_count 62 = .ok (.getfield 84, 3) := by decide +kernel
theorem d_D_count_65 : decode b_D_count 65 = .ok (.ireturn, 1) := by decide +kernel
theorem d_D_count_66 : decode b_D_count 66 = .ok (.aload_n 0, 1) := by decide +kernel
theorem d_D_count_67 : decode b_D_count 67 = .ok (.getfield 124, 3) := by decide +kernel
theorem d_D_count_70 : decode b_D_count 70 = .ok (.ireturn, 1) := by decide +kernel
theorem d_D_count_71 : decode b_D_count 71 = .ok (.aload_n 0, 1) := by decide +kernel
theorem d_D_count_72 : decode b_D_count 72 = .ok (.getfield 111, 3) := by decide +kernel
theorem d_D_count_75 : decode b_D_count 75 = .ok (.ireturn, 1) := by decide +kernel
theorem d_D_count_76 : decode b_D_count 76 = .ok (.iconst (-1), 1) := by decide +kernel
theorem d_D_count_77 : decode b_D_count 77 = .ok (.ireturn, 1) := by decide +kernel
