theorem d_MD_init_0 : decode b_MD_init 0 = .ok (.aload_n 0, 1) := by decide +kernel
theorem d_MD_init_1 : decode b_MD_init 1 = .ok (.invokespecial 1, 3) := by decide +kernel
theorem d_MD_init_4 : decode b_MD_init 4 = .ok (.aload_n 0, 1) := by decide +kernel
theorem d_MD_init_5 : decode b_MD_init 5 = .ok (.bipush 120, 2) := by decide +kernel
theorem d_MD_init_7 : decode b_MD_init 7 = .ok (.newarray .int, 2) := by decide +kernel
theorem d_MD_init_9 : decode b_MD_init 9 = .ok (.putfield 7, 3) := by decide +kernel
theorem d_MD_init_12 : decode b_MD_init 12 = .ok (.aload_n 0, 1) := by decide +kernel
theorem d_MD_init_13 : decode b_MD_init 13 = .ok (.bipush 48, 2) := by decide +kernel
theorem d_MD_init_15 : decode b_MD_init 15 = .ok (.newarray .int, 2) := by decide +kernel
theorem d_MD_init_17 : decode b_MD_init 17 = .ok (.putfield 13, 3) := by decide +kernel
theorem d_MD_init_20 : decode b_MD_init 20 = .ok (.aload_n 0, 1) := by decide +kernel
theorem d_MD_init_21 : decode b_MD_init 21 = .ok (.bipush 100, 2) := by decide +kernel
theorem d_MD_init_23 : decode b_MD_init 23 = .ok (.newarray .int, 2) := by decide +kernel
theorem d_MD_init_25 : decode b_MD_init 25 = .ok (.putfield 16, 3) := by decide +kernel
theorem d_MD_init_28 : decode b_MD_init 28 = .ok (.aload_n 0, 1) := by decide +kernel
theorem d_MD_init_29 : decode b_MD_init 29 = .ok (.bipush 100, 2) := by decide +kernel
theorem d_MD_init_31 : decode b_MD_init 31 = .ok (.newarray .int, 2) := by decide +kernel
theorem d_MD_init_33 : decode b_MD_init 33 = .ok (.putfield 19, 3) := by decide +kernel
theorem d_MD_init_36 : decode b_MD_init 36 = .ok (.aload_n 0, 1) := by decide +kernel
theorem d_MD_init_37 : decode b_MD_init 37 = .ok (.bipush 100, 2) := by decide +kernel
theorem d_MD_init_39 : decode b_MD_init 39 = .ok (.newarray .int, 2) := by decide +kernel
theorem d_MD_init_41 : decode b_MD_init 41 = .ok (.putfield 22, 3) := by decide +kernel
theorem d_MD_init_44 : decode b_MD_init 44 = .ok (.aload_n 0, 1) := by decide +kernel
theorem d_MD_init_45 : decode b_MD_init 45 = .ok (.bipush 60, 2) := by decide +kernel
theorem d_MD_init_47 : decode b_MD_init 47 = .ok (.newarray .int, 2) := by decide +kernel
theorem d_MD_init_49 : decode b_MD_init 49 = .ok (.putfield 25, 3) := by decide +kernel
theorem d_MD_init_52 : decode b_MD_init 52 = .ok (.aload_n 0, 1) := by decide +kernel
theorem d_MD_init_53 : decode b_MD_init 53 = .ok (.sipush 180, 3) := by decide +kernel
theorem d_MD_init_56 : decode b_MD_init 56 = .ok (.newarray .int, 2) := by decide +kernel
theorem d_MD_init_58 : decode b_MD_init 58 = .ok (.putfield 28, 3) := by decide +kernel
theorem d_MD_init_61 : decode b_MD_init 61 = .ok (.aload_n 0, 1) := by decide +kernel
theorem d_MD_init_62 : decode b_MD_init 62 = .ok (.sipush 180, 3) := by decide +kernel
theorem d_MD_init_65 : decode b_MD_init 65 = .ok (.newarray .int, 2) := by decide +kernel
theorem d_MD_init_67 : decode b_MD_init 67 = .ok (.putfield 31, 3) := by decide +kernel
theorem d_MD_init_70 : decode b_MD_init 70 = .ok (.aload_n 0, 1) := by decide +kernel
theorem d_MD_init_71 : decode b_MD_init 71 = .ok (.sipush 200, 3) := by decide +kernel
theorem d_MD_init_74 : decode b_MD_init 74 = .ok (.newarray .int, 2) := by decide +kernel
theorem d_MD_init_76 : decode b_MD_init 76 = .ok (.putfield 34, 3) := by decide +kernel
theorem d_MD_init_79 : decode b_MD_init 79 = .ok (.aload_n 0, 1) := by decide +kernel
theorem d_MD_init_80 : decode b_MD_init 80 = .ok (.sipush 200, 3) := by decide +kernel
theorem d_MD_init_83 : decode b_MD_init 83 = .ok (.newarray .int, 2) := by decide +kernel
theorem d_MD_init_85 : decode b_MD_init 85 = .ok (.putfield 37, 3) := by decide +kernel
theorem d_MD_init_88 : decode b_MD_init 88 = .ok (.aload_n 0, 1) := by decide +kernel
theorem d_MD_init_89 : decode b_MD_init 89 = .ok (.sipush 200, 3) := by decide +kernel
theorem d_MD_init_92 : decode b_MD_init 92 = .ok (.newarray .int, 2) := by decide +kernel
theorem d_MD_init_94 : decode b_MD_init 94 = .ok (.putfield 40, 3) := by decide +kernel
theorem d_MD_init_97 : decode b_MD_init 97 = .ok (.aload_n 0, 1) := by decide +kernel
theorem d_MD_init_98 : decode b_MD_init 98 = .ok (.sipush 200, 3) := by decide +kernel
theorem d_MD_init_101 : decode b_MD_init 101 = .ok (.newarray .int, 2) := by decide +kernel
theorem d_MD_init_103 : decode b_MD_init 103 = .ok (.putfield 43, 3) := by decide +kernel
theorem d_MD_init_106 : decode b_MD_init 106 = .ok (.aload_n 0, 1) := by decide +kernel
theorem d_MD_init_107 : decode b_MD_init 107 = .ok (.sipush 200, 3) := by decide +kernel
theorem d_MD_init_110 : decode b_MD_init 110 = .ok (.newarray .long, 2) := by decide +kernel
theorem d_MD_init_112 : decode b_MD_init 112 = .ok (.putfield 46, 3) := by decide +kernel
theorem d_MD_init_115 : decode b_MD_init 115 = .ok (.aload_n 0, 1) := by decide +kernel
theorem d_MD_init_116 : decode b_MD_init 116 = .ok (.sipush 200, 3) := by decide +kernel
theorem d_MD_init_119 : decode b_MD_init 119 = .ok (.newarray .int, 2) := by decide +kernel
theorem d_MD_init_121 : decode b_MD_init 121 = .ok (.putfield 50, 3) := by decide +kernel
theorem d_MD_init_124 : decode b_MD_init 124 = .ok (.aload_n 0, 1) := by decide +kernel
theorem d_MD_init_125 : decode b_MD_init 125 = .ok (.sipush 200, 3) := by decide +kernel
theorem d_MD_init_128 : decode b_MD_init 128 = .ok (.newarray .boolean, 2) := by decide +kernel
theorem d_MD_init_130 : decode b_MD_init 130 = .ok (.putfield 53, 3) := by decide +kernel
theorem d_MD_init_133 : decode b_MD_init 133 = .ok (.aload_n 0, 1) := by decide +kernel
theorem d_MD_init_134 : decode b_MD_init 134 = .ok (.sipush 200, 3) := by decide +kernel
theorem d_MD_init_137 : decode b_MD_init 137 = .ok (.newarray .boolean, 2) := by decide +kernel
theorem d_MD_init_139 : decode b_MD_init 139 = .ok (.putfield 57, 3) := by decide +kernel
theorem d_MD_init_142 : decode b_MD_init 142 = .ok (.aload_n 0, 1) := by decide +kernel
theorem d_MD_init_143 : decode b_MD_init 143 = .ok (.bipush 10, 2) := by decide +kernel
theorem d_MD_init_145 : decode b_MD_init 145 = .ok (.newarray .long, 2) := by decide +kernel
theorem d_MD_init_147 : decode b_MD_init 147 = .ok (.putfield 60, 3) := by decide +kernel
theorem d_MD_init_150 : decode b_MD_init 150 = .ok (.return_, 1) := by decide +kernel
theorem d_MD_thrown_0 : decode b_MD_thrown 0 = .ok (.aload_n 0, 1) := by decide +kernel
theorem d_MD_thrown_1 : decode b_MD_thrown 1 = .ok (.getfield 63, 3) := by decide +kernel
theorem d_MD_thrown_4 : decode b_MD_thrown 4 = .ok (.ireturn, 1) := by decide +kernel
theorem d_MD_fails_0 : decode b_MD_fails 0 = .ok (.aload_n 0, 1) := by decide +kernel
theorem d_MD_fails_1 : decode b_MD_fails 1 = .ok (.iload_n 1, 1) := by decide +kernel
theorem d_MD_fails_2 : decode b_MD_fails 2 = .ok (.putfield 63, 3) := by decide +kernel
theorem d_MD_fails_5 : decode b_MD_fails 5 = .ok (.iconst 0, 1) := by decide +kernel
theorem d_MD_fails_6 : decode b_MD_fails 6 = .ok (.ireturn, 1) := by decide +kernel
theorem d_MD_in_0 : decode b_MD_in 0 = .ok (.lload_n 0, 1) := by decide +kernel
theorem d_MD_in_1 : decode b_MD_in 1 = .ok (.lload_n 2, 1) := by decide +kernel
theorem d_MD_in_2 : decode b_MD_in 2 = .ok (.lcmp, 1) := by decide +kernel
theorem d_MD_in_3 : decode b_MD_in 3 = .ok (.ifCond .lt 14, 3) := by decide +kernel
theorem d_MD_in_6 : decode b_MD_in 6 = .ok (.lload_n 0, 1) := by decide +kernel
theorem d_MD_in_7 : decode b_MD_in 7 = .ok (.lload 4, 2) := by decide +kernel
theorem d_MD_in_9 : decode b_MD_in 9 = .ok (.lcmp, 1) := by decide +kernel
theorem d_MD_in_10 : decode b_MD_in 10 = .ok (.ifCond .gt 7, 3) := by decide +kernel
theorem d_MD_in_13 : decode b_MD_in 13 = .ok (.iconst 1, 1) := by decide +kernel
theorem d_MD_in_14 : decode b_MD_in 14 = .ok (.goto 4, 3) := by decide +kernel
theorem d_MD_in_17 : decode b_MD_in 17 = .ok (.iconst 0, 1) := by decide +kernel
theorem d_MD_in_18 : decode b_MD_in 18 = .ok (.ireturn, 1) := by decide +kernel
theorem d_MD_isCall_0 : decode b_MD_isCall 0 = .ok (.iload_n 0, 1) := by decide +kernel
theorem d_MD_isCall_1 : decode b_MD_isCall 1 = .ok (.ifCond .lt 13, 3) := by decide +kernel
theorem d_MD_isCall_4 : decode b_MD_isCall 4 = .ok (.iload_n 0, 1) := by decide +kernel
theorem d_MD_isCall_5 : decode b_MD_isCall 5 = .ok (.bipush 10, 2) := by decide +kernel
theorem d_MD_isCall_7 : decode b_MD_isCall 7 = .ok (.if_icmp .ge 7, 3) := by decide +kernel
theorem d_MD_isCall_10 : decode b_MD_isCall 10 = .ok (.iconst 1, 1) := by decide +kernel
theorem d_MD_isCall_11 : decode b_MD_isCall 11 = .ok (.goto 4, 3) := by decide +kernel
theorem d_MD_isCall_14 : decode b_MD_isCall 14 = .ok (.iconst 0, 1) := by decide +kernel
theorem d_MD_isCall_15 : decode b_MD_isCall 15 = .ok (.ireturn, 1) := by decide +kernel
theorem d_MD_isKind_0 : decode b_MD_isKind 0 = .ok (.iload_n 0, 1) := by decide +kernel
theorem d_MD_isKind_1 : decode b_MD_isKind 1 = .ok (.ifCond .lt 13, 3) := by decide +kernel
theorem d_MD_isKind_4 : decode b_MD_isKind 4 = .ok (.iload_n 0, 1) := by decide +kernel
theorem d_MD_isKind_5 : decode b_MD_isKind 5 = .ok (.bipush 6, 2) := by decide +kernel
theorem d_MD_isKind_7 : decode b_MD_isKind 7 = .ok (.if_icmp .ge 7, 3) := by decide +kernel
theorem d_MD_isKind_10 : decode b_MD_isKind 10 = .ok (.iconst 1, 1) := by decide +kernel
theorem d_MD_isKind_11 : decode b_MD_isKind 11 = .ok (.goto 4, 3) := by decide +kernel
theorem d_MD_isKind_14 : decode b_MD_isKind 14 = .ok (.iconst 0, 1) := by decide +kernel
theorem d_MD_isKind_15 : decode b_MD_isKind 15 = .ok (.ireturn, 1) := by decide +kernel
theorem d_MD_unitOf_0 : decode b_MD_unitOf 0 = .ok (.iload_n 0, 1) := by decide +kernel
theorem d_MD_unitOf_1 : decode b_MD_unitOf 1 = .ok (.iconst 2, 1) := by decide +kernel
theorem d_MD_unitOf_2 : decode b_MD_unitOf 2 = .ok (.if_icmp .ne 8, 3) := by decide +kernel
theorem d_MD_unitOf_5 : decode b_MD_unitOf 5 = .ok (.bipush 60, 2) := by decide +kernel
theorem d_MD_unitOf_7 : decode b_MD_unitOf 7 = .ok (.goto 26, 3) := by decide +kernel
theorem d_MD_unitOf_10 : decode b_MD_unitOf 10 = .ok (.iload_n 0, 1) := by decide +kernel
theorem d_MD_unitOf_11 : decode b_MD_unitOf 11 = .ok (.iconst 3, 1) := by decide +kernel
theorem d_MD_unitOf_12 : decode b_MD_unitOf 12 = .ok (.if_icmp .ne 9, 3) := by decide +kernel
theorem d_MD_unitOf_15 : decode b_MD_unitOf 15 = .ok (.sipush 1440, 3) := by decide +kernel
theorem d_MD_unitOf_18 : decode b_MD_unitOf 18 = .ok (.goto 15, 3) := by decide +kernel
theorem d_MD_unitOf_21 : decode b_MD_unitOf 21 = .ok (.iload_n 0, 1) := by decide +kernel
theorem d_MD_unitOf_22 : decode b_MD_unitOf 22 = .ok (.iconst 4, 1) := by decide +kernel
theorem d_MD_unitOf_23 : decode b_MD_unitOf 23 = .ok (.if_icmp .ne 9, 3) := by decide +kernel
theorem d_MD_unitOf_26 : decode b_MD_unitOf 26 = .ok (.sipush 1000, 3) := by decide +kernel
theorem d_MD_unitOf_29 : decode b_MD_unitOf 29 = .ok (.goto 4, 3) := by decide +kernel
theorem d_MD_unitOf_32 : decode b_MD_unitOf 32 = .ok (.iconst 1, 1) := by decide +kernel
theorem d_MD_unitOf_33 : decode b_MD_unitOf 33 = .ok (.ireturn, 1) := by decide +kernel
theorem d_MD_sign_0 : decode b_MD_sign 0 = .ok (.aload_n 0, 1) := by decide +kernel
theorem d_MD_sign_1 : decode b_MD_sign 1 = .ok (.iconst 0, 1) := by decide +kernel
theorem d_MD_sign_2 : decode b_MD_sign 2 = .ok (.putfield 63, 3) := by decide +kernel
theorem d_MD_sign_5 : decode b_MD_sign 5 = .ok (.iload_n 1, 1) := by decide +kernel
theorem d_MD_sign_6 : decode b_MD_sign 6 = .ok (.i2l, 1) := by decide +kernel
theorem d_MD_sign_7 : decode b_MD_sign 7 = .ok (.ldc2_w 67, 3) := by decide +kernel
theorem d_MD_sign_10 : decode b_MD_sign 10 = .ok (.ldc2_w 69, 3) := by decide +kernel
theorem d_MD_sign_13 : decode b_MD_sign 13 = .ok (.invokestatic 71, 3) := by decide +kernel
theorem d_MD_sign_16 : decode b_MD_sign 16 = .ok (.ifCond .eq 12, 3) := by decide +kernel
theorem d_MD_sign_19 : decode b_MD_sign 19 = .ok (.aload_n 0, 1) := by decide +kernel
theorem d_MD_sign_20 : decode b_MD_sign 20 = .ok (.getfield 75, 3) := by decide +kernel
theorem d_MD_sign_23 : decode b_MD_sign 23 = .ok (.bipush 120, 2) := by decide +kernel
theorem d_MD_sign_25 : decode b_MD_sign 25 = .ok (.if_icmp .ne 5, 3) := by decide +kernel
theorem d_MD_sign_28 : decode b_MD_sign 28 = .ok (.iconst 0, 1) := by decide +kernel
theorem d_MD_sign_29 : decode b_MD_sign 29 = .ok (.ireturn, 1) := by decide +kernel
theorem d_MD_sign_30 : decode b_MD_sign 30 = .ok (.aload_n 0, 1) := by decide +kernel
theorem d_MD_sign_31 : decode b_MD_sign 31 = .ok (.getfield 7, 3) := by decide +kernel
theorem d_MD_sign_34 : decode b_MD_sign 34 = .ok (.aload_n 0, 1) := by decide +kernel
theorem d_MD_sign_35 : decode b_MD_sign 35 = .ok (.getfield 75, 3) := by decide +kernel
theorem d_MD_sign_38 : decode b_MD_sign 38 = .ok (.iload_n 1, 1) := by decide +kernel
theorem d_MD_sign_39 : decode b_MD_sign 39 = .ok (.iastore, 1) := by decide +kernel
theorem d_MD_sign_40 : decode b_MD_sign 40 = .ok (.aload_n 0, 1) := by decide +kernel
theorem d_MD_sign_41 : decode b_MD_sign 41 = .ok (.dup, 1) := by decide +kernel
theorem d_MD_sign_42 : decode b_MD_sign 42 = .ok (.getfield 75, 3) := by decide +kernel
theorem d_MD_sign_45 : decode b_MD_sign 45 = .ok (.iconst 1, 1) := by decide +kernel
theorem d_MD_sign_46 : decode b_MD_sign 46 = .ok (.iadd, 1) := by decide +kernel
theorem d_MD_sign_47 : decode b_MD_sign 47 = .ok (.putfield 75, 3) := by decide +kernel
theorem d_MD_sign_50 : decode b_MD_sign 50 = .ok (.iconst 1, 1) := by decide +kernel
theorem d_MD_sign_51 : decode b_MD_sign 51 = .ok (.ireturn, 1) := by decide +kernel
theorem d_MD_begins_0 : decode b_MD_begins 0 = .ok (.iload_n 0, 1) := by decide +kernel
theorem d_MD_begins_1 : decode b_MD_begins 1 = .ok (.bipush 47, 2) := by decide +kernel
theorem d_MD_begins_3 : decode b_MD_begins 3 = .ok (.if_icmp .ne 7, 3) := by decide +kernel
theorem d_MD_begins_6 : decode b_MD_begins 6 = .ok (.iconst 3, 1) := by decide +kernel
theorem d_MD_begins_7 : decode b_MD_begins 7 = .ok (.goto 24, 3) := by decide +kernel
theorem d_MD_begins_10 : decode b_MD_begins 10 = .ok (.iload_n 0, 1) := by decide +kernel
theorem d_MD_begins_11 : decode b_MD_begins 11 = .ok (.bipush 45, 2) := by decide +kernel
theorem d_MD_begins_13 : decode b_MD_begins 13 = .ok (.if_icmp .ne 7, 3) := by decide +kernel
theorem d_MD_begins_16 : decode b_MD_begins 16 = .ok (.iconst 4, 1) := by decide +kernel
theorem d_MD_begins_17 : decode b_MD_begins 17 = .ok (.goto 14, 3) := by decide +kernel
theorem d_MD_begins_20 : decode b_MD_begins 20 = .ok (.iload_n 0, 1) := by decide +kernel
theorem d_MD_begins_21 : decode b_MD_begins 21 = .ok (.bipush 62, 2) := by decide +kernel
theorem d_MD_begins_23 : decode b_MD_begins 23 = .ok (.if_icmp .ne 7, 3) := by decide +kernel
theorem d_MD_begins_26 : decode b_MD_begins 26 = .ok (.iconst 5, 1) := by decide +kernel
theorem d_MD_begins_27 : decode b_MD_begins 27 = .ok (.goto 4, 3) := by decide +kernel
theorem d_MD_begins_30 : decode b_MD_begins 30 = .ok (.iconst 0, 1) := by decide +kernel
theorem d_MD_begins_31 : decode b_MD_begins 31 = .ok (.ireturn, 1) := by decide +kernel
theorem d_MD_read_0 : decode b_MD_read 0 = .ok (.aload_n 0, 1) := by decide +kernel
theorem d_MD_read_1 : decode b_MD_read 1 = .ok (.iconst 0, 1) := by decide +kernel
theorem d_MD_read_2 : decode b_MD_read 2 = .ok (.putfield 63, 3) := by decide +kernel
theorem d_MD_read_5 : decode b_MD_read 5 = .ok (.aload_n 0, 1) := by decide +kernel
theorem d_MD_read_6 : decode b_MD_read 6 = .ok (.aload_n 0, 1) := by decide +kernel
theorem d_MD_read_7 : decode b_MD_read 7 = .ok (.getfield 78, 3) := by decide +kernel
theorem d_MD_read_10 : decode b_MD_read 10 = .ok (.putfield 81, 3) := by decide +kernel
theorem d_MD_read_13 : decode b_MD_read 13 = .ok (.iconst 0, 1) := by decide +kernel
theorem d_MD_read_14 : decode b_MD_read 14 = .ok (.istore_n 1, 1) := by decide +kernel
theorem d_MD_read_15 : decode b_MD_read 15 = .ok (.iload_n 1, 1) := by decide +kernel
theorem d_MD_read_16 : decode b_MD_read 16 = .ok (.bipush 24, 2) := by decide +kernel
theorem d_MD_read_18 : decode b_MD_read 18 = .ok (.if_icmp .ge 24, 3) := by decide +kernel
theorem d_MD_read_21 : decode b_MD_read 21 = .ok (.aload_n 0, 1) := by decide +kernel
theorem d_MD_read_22 : decode b_MD_read 22 = .ok (.getfield 13, 3) := by decide +kernel
theorem d_MD_read_25 : decode b_MD_read 25 = .ok (.bipush 24, 2) := by decide +kernel
theorem d_MD_read_27 : decode b_MD_read 27 = .ok (.iload_n 1, 1) := by decide +kernel
theorem d_MD_read_28 : decode b_MD_read 28 = .ok (.iadd, 1) := by decide +kernel
theorem d_MD_read_29 : decode b_MD_read 29 = .ok (.aload_n 0, 1) := by decide +kernel
theorem d_MD_read_30 : decode b_MD_read 30 = .ok (.getfield 13, 3) := by decide +kernel
theorem d_MD_read_33 : decode b_MD_read 33 = .ok (.iload_n 1, 1) := by decide +kernel
theorem d_MD_read_34 : decode b_MD_read 34 = .ok (.iaload, 1) := by decide +kernel
theorem d_MD_read_35 : decode b_MD_read 35 = .ok (.iastore, 1) := by decide +kernel
theorem d_MD_read_36 : decode b_MD_read 36 = .ok (.iinc 1 1, 3) := by decide +kernel
theorem d_MD_read_39 : decode b_MD_read 39 = .ok (.goto (-24), 3) := by decide +kernel
theorem d_MD_read_42 : decode b_MD_read 42 = .ok (.iconst 0, 1) := by decide +kernel
theorem d_MD_read_43 : decode b_MD_read 43 = .ok (.istore_n 1, 1) := by decide +kernel
theorem d_MD_read_44 : decode b_MD_read 44 = .ok (.iconst 0, 1) := by decide +kernel
theorem d_MD_read_45 : decode b_MD_read 45 = .ok (.istore_n 2, 1) := by decide +kernel
theorem d_MD_read_46 : decode b_MD_read 46 = .ok (.iconst 0, 1) := by decide +kernel
theorem d_MD_read_47 : decode b_MD_read 47 = .ok (.istore_n 3, 1) := by decide +kernel
theorem d_MD_read_48 : decode b_MD_read 48 = .ok (.iconst 0, 1) := by decide +kernel
theorem d_MD_read_49 : decode b_MD_read 49 = .ok (.istore 4, 2) := by decide +kernel
theorem d_MD_read_51 : decode b_MD_read 51 = .ok (.aload_n 0, 1) := by decide +kernel
theorem d_MD_read_52 : decode b_MD_read 52 = .ok (.getfield 75, 3) := by decide +kernel
theorem d_MD_read_55 : decode b_MD_read 55 = .ok (.ifCond .ne 7, 3) := by decide +kernel
theorem d_MD_read_58 : decode b_MD_read 58 = .ok (.iconst 0, 1) := by decide +kernel
theorem d_MD_read_59 : decode b_MD_read 59 = .ok (.goto 4, 3) := by decide +kernel
theorem d_MD_read_62 : decode b_MD_read 62 = .ok (.iconst (-1), 1) := by decide +kernel
theorem d_MD_read_63 : decode b_MD_read 63 = .ok (.istore 5, 2) := by decide +kernel
theorem d_MD_read_65 : decode b_MD_read 65 = .ok (.iconst 0, 1) := by decide +kernel
theorem d_MD_read_66 : decode b_MD_read 66 = .ok (.istore 6, 2) := by decide +kernel
theorem d_MD_read_68 : decode b_MD_read 68 = .ok (.iload 6, 2) := by decide +kernel
theorem d_MD_read_70 : decode b_MD_read 70 = .ok (.aload_n 0, 1) := by decide +kernel
theorem d_MD_read_71 : decode b_MD_read 71 = .ok (.getfield 75, 3) := by decide +kernel
theorem d_MD_read_74 : decode b_MD_read 74 = .ok (.if_icmp .ge 312, 3) := by decide +kernel
theorem d_MD_read_77 : decode b_MD_read 77 = .ok (.iload 5, 2) := by decide +kernel
theorem d_MD_read_79 : decode b_MD_read 79 = .ok (.ifCond .ge 307, 3) := by decide +kernel
theorem d_MD_read_82 : decode b_MD_read 82 = .ok (.aload_n 0, 1) := by decide +kernel
theorem d_MD_read_83 : decode b_MD_read 83 = .ok (.getfield 7, 3) := by decide +kernel
theorem d_MD_read_86 : decode b_MD_read 86 = .ok (.iload 6, 2) := by decide +kernel
theorem d_MD_read_88 : decode b_MD_read 88 = .ok (.iaload, 1) := by decide +kernel
theorem d_MD_read_89 : decode b_MD_read 89 = .ok (.istore 7, 2) := by decide +kernel
theorem d_MD_read_91 : decode b_MD_read 91 = .ok (.iload 7, 2) := by decide +kernel
theorem d_MD_read_93 : decode b_MD_read 93 = .ok (.i2l, 1) := by decide +kernel
theorem d_MD_read_94 : decode b_MD_read 94 = .ok (.ldc2_w 84, 3) := by decide +kernel
theorem d_MD_read_97 : decode b_MD_read 97 = .ok (.ldc2_w 86, 3) := by decide +kernel
theorem d_MD_read_100 : decode b_MD_read 100 = .ok (.invokestatic 71, 3) := by decide +kernel
theorem d_MD_read_103 : decode b_MD_read 103 = .ok (.istore 8, 2) := by decide +kernel
theorem d_MD_read_105 : decode b_MD_read 105 = .ok (.iload_n 2, 1) := by decide +kernel
theorem d_MD_read_106 : decode b_MD_read 106 = .ok (.iconst 3, 1) := by decide +kernel
theorem d_MD_read_107 : decode b_MD_read 107 = .ok (.if_icmp .eq 8, 3) := by decide +kernel
theorem d_MD_read_110 : decode b_MD_read 110 = .ok (.iload_n 2, 1) := by decide +kernel
theorem d_MD_read_111 : decode b_MD_read 111 = .ok (.iconst 4, 1) := by decide +kernel
theorem d_MD_read_112 : decode b_MD_read 112 = .ok (.if_icmp .ne 7, 3) := by decide +kernel
theorem d_MD_read_115 : decode b_MD_read 115 = .ok (.iconst 4, 1) := by decide +kernel
theorem d_MD_read_116 : decode b_MD_read 116 = .ok (.goto 5, 3) := by decide +kernel
theorem d_MD_read_119 : decode b_MD_read 119 = .ok (.bipush 6, 2) := by decide +kernel
theorem d_MD_read_121 : decode b_MD_read 121 = .ok (.istore 9, 2) := by decide +kernel
theorem d_MD_read_123 : decode b_MD_read 123 = .ok (.iload_n 2, 1) := by decide +kernel
theorem d_MD_read_124 : decode b_MD_read 124 = .ok (.iconst 2, 1) := by decide +kernel
theorem d_MD_read_125 : decode b_MD_read 125 = .ok (.if_icmp .lt 33, 3) := by decide +kernel
theorem d_MD_read_128 : decode b_MD_read 128 = .ok (.iload_n 3, 1) := by decide +kernel
theorem d_MD_read_129 : decode b_MD_read 129 = .ok (.ifCond .le 29, 3) := by decide +kernel
theorem d_MD_read_132 : decode b_MD_read 132 = .ok (.iload_n 2, 1) := by decide +kernel
theorem d_MD_read_133 : decode b_MD_read 133 = .ok (.iconst 3, 1) := by decide +kernel
theorem d_MD_read_134 : decode b_MD_read 134 = .ok (.if_icmp .ne 20, 3) := by decide +kernel
theorem d_MD_read_137 : decode b_MD_read 137 = .ok (.aload_n 0, 1) := by decide +kernel
theorem d_MD_read_138 : decode b_MD_read 138 = .ok (.getfield 13, 3) := by decide +kernel
theorem d_MD_read_141 : decode b_MD_read 141 = .ok (.bipush 24, 2) := by decide +kernel
theorem d_MD_read_143 : decode b_MD_read 143 = .ok (.iconst 4, 1) := by decide +kernel
theorem d_MD_read_144 : decode b_MD_read 144 = .ok (.iload 4, 2) := by decide +kernel
theorem d_MD_read_146 : decode b_MD_read 146 = .ok (.imul, 1) := by decide +kernel
theorem d_MD_read_147 : decode b_MD_read 147 = .ok (.iadd, 1) := by decide +kernel
theorem d_MD_read_148 : decode b_MD_read 148 = .ok (.iconst 1, 1) := by decide +kernel
theorem d_MD_read_149 : decode b_MD_read 149 = .ok (.iadd, 1) := by decide +kernel
theorem d_MD_read_150 : decode b_MD_read 150 = .ok (.iaload, 1) := by decide +kernel
theorem d_MD_read_151 : decode b_MD_read 151 = .ok (.ifCond .eq 7, 3) := by decide +kernel
theorem d_MD_read_154 : decode b_MD_read 154 = .ok (.iconst 1, 1) := by decide +kernel
theorem d_MD_read_155 : decode b_MD_read 155 = .ok (.goto 4, 3) := by decide +kernel
theorem d_MD_read_158 : decode b_MD_read 158 = .ok (.iconst 0, 1) := by decide +kernel
theorem d_MD_read_159 : decode b_MD_read 159 = .ok (.istore 10, 2) := by decide +kernel
theorem d_MD_read_161 : decode b_MD_read 161 = .ok (.iload_n 2, 1) := by decide +kernel
theorem d_MD_read_162 : decode b_MD_read 162 = .ok (.ifCond .ne 103, 3) := by decide +kernel
theorem d_MD_read_165 : decode b_MD_read 165 = .ok (.iload 7, 2) := by decide +kernel
theorem d_MD_read_167 : decode b_MD_read 167 = .ok (.i2l, 1) := by decide +kernel
theorem d_MD_read_168 : decode b_MD_read 168 = .ok (.ldc2_w 88, 3) := by decide +kernel
theorem d_MD_read_171 : decode b_MD_read 171 = .ok (.ldc2_w 90, 3) := by decide +kernel
theorem d_MD_read_174 : decode b_MD_read 174 = .ok (.invokestatic 71, 3) := by decide +kernel
theorem d_MD_read_177 : decode b_MD_read 177 = .ok (.ifCond .eq 88, 3) := by decide +kernel
theorem d_MD_read_180 : decode b_MD_read 180 = .ok (.iload 7, 2) := by decide +kernel
theorem d_MD_read_182 : decode b_MD_read 182 = .ok (.bipush 65, 2) := by decide +kernel
theorem d_MD_read_184 : decode b_MD_read 184 = .ok (.isub, 1) := by decide +kernel
theorem d_MD_read_185 : decode b_MD_read 185 = .ok (.istore 4, 2) := by decide +kernel
theorem d_MD_read_187 : decode b_MD_read 187 = .ok (.aload_n 0, 1) := by decide +kernel
theorem d_MD_read_188 : decode b_MD_read 188 = .ok (.dup, 1) := by decide +kernel
theorem d_MD_read_189 : decode b_MD_read 189 = .ok (.getfield 81, 3) := by decide +kernel
theorem d_MD_read_192 : decode b_MD_read 192 = .ok (.iconst 1, 1) := by decide +kernel
theorem d_MD_read_193 : decode b_MD_read 193 = .ok (.iload 4, 2) := by decide +kernel
theorem d_MD_read_195 : decode b_MD_read 195 = .ok (.ishl, 1) := by decide +kernel
theorem d_MD_read_196 : decode b_MD_read 196 = .ok (.ior, 1) := by decide +kernel
theorem d_MD_read_197 : decode b_MD_read 197 = .ok (.putfield 81, 3) := by decide +kernel
theorem d_MD_read_200 : decode b_MD_read 200 = .ok (.aload_n 0, 1) := by decide +kernel
theorem d_MD_read_201 : decode b_MD_read 201 = .ok (.getfield 13, 3) := by decide +kernel
theorem d_MD_read_204 : decode b_MD_read 204 = .ok (.bipush 24, 2) := by decide +kernel
theorem d_MD_read_206 : decode b_MD_read 206 = .ok (.iconst 4, 1) := by decide +kernel
theorem d_MD_read_207 : decode b_MD_read 207 = .ok (.iload 4, 2) := by decide +kernel
theorem d_MD_read_209 : decode b_MD_read 209 = .ok (.imul, 1) := by decide +kernel
theorem d_MD_read_210 : decode b_MD_read 210 = .ok (.iadd, 1) := by decide +kernel
theorem d_MD_read_211 : decode b_MD_read 211 = .ok (.iconst 0, 1) := by decide +kernel
theorem d_MD_read_212 : decode b_MD_read 212 = .ok (.iastore, 1) := by decide +kernel
theorem d_MD_read_213 : decode b_MD_read 213 = .ok (.aload_n 0, 1) := by decide +kernel
theorem d_MD_read_214 : decode b_MD_read 214 = .ok (.getfield 13, 3) := by decide +kernel
theorem d_MD_read_217 : decode b_MD_read 217 = .ok (.bipush 24, 2) := by decide +kernel
theorem d_MD_read_219 : decode b_MD_read 219 = .ok (.iconst 4, 1) := by decide +kernel
theorem d_MD_read_220 : decode b_MD_read 220 = .ok (.iload 4, 2) := by decide +kernel
theorem d_MD_read_222 : decode b_MD_read 222 = .ok (.imul, 1) := by decide +kernel
theorem d_MD_read_223 : decode b_MD_read 223 = .ok (.iadd, 1) := by decide +kernel
theorem d_MD_read_224 : decode b_MD_read 224 = .ok (.iconst 1, 1) := by decide +kernel
theorem d_MD_read_225 : decode b_MD_read 225 = .ok (.iadd, 1) := by decide +kernel
theorem d_MD_read_226 : decode b_MD_read 226 = .ok (.iconst 1, 1) := by decide +kernel
theorem d_MD_read_227 : decode b_MD_read 227 = .ok (.iastore, 1) := by decide +kernel
theorem d_MD_read_228 : decode b_MD_read 228 = .ok (.aload_n 0, 1) := by decide +kernel
theorem d_MD_read_229 : decode b_MD_read 229 = .ok (.getfield 13, 3) := by decide +kernel
theorem d_MD_read_232 : decode b_MD_read 232 = .ok (.bipush 24, 2) := by decide +kernel
theorem d_MD_read_234 : decode b_MD_read 234 = .ok (.iconst 4, 1) := by decide +kernel
theorem d_MD_read_235 : decode b_MD_read 235 = .ok (.iload 4, 2) := by decide +kernel
theorem d_MD_read_237 : decode b_MD_read 237 = .ok (.imul, 1) := by decide +kernel
theorem d_MD_read_238 : decode b_MD_read 238 = .ok (.iadd, 1) := by decide +kernel
theorem d_MD_read_239 : decode b_MD_read 239 = .ok (.iconst 2, 1) := by decide +kernel
theorem d_MD_read_240 : decode b_MD_read 240 = .ok (.iadd, 1) := by decide +kernel
theorem d_MD_read_241 : decode b_MD_read 241 = .ok (.iconst 0, 1) := by decide +kernel
theorem d_MD_read_242 : decode b_MD_read 242 = .ok (.iastore, 1) := by decide +kernel
theorem d_MD_read_243 : decode b_MD_read 243 = .ok (.aload_n 0, 1) := by decide +kernel
theorem d_MD_read_244 : decode b_MD_read 244 = .ok (.getfield 13, 3) := by decide +kernel
theorem d_MD_read_247 : decode b_MD_read 247 = .ok (.bipush 24, 2) := by decide +kernel
theorem d_MD_read_249 : decode b_MD_read 249 = .ok (.iconst 4, 1) := by decide +kernel
theorem d_MD_read_250 : decode b_MD_read 250 = .ok (.iload 4, 2) := by decide +kernel
theorem d_MD_read_252 : decode b_MD_read 252 = .ok (.imul, 1) := by decide +kernel
theorem d_MD_read_253 : decode b_MD_read 253 = .ok (.iadd, 1) := by decide +kernel
theorem d_MD_read_254 : decode b_MD_read 254 = .ok (.iconst 3, 1) := by decide +kernel
theorem d_MD_read_255 : decode b_MD_read 255 = .ok (.iadd, 1) := by decide +kernel
theorem d_MD_read_256 : decode b_MD_read 256 = .ok (.iconst 0, 1) := by decide +kernel
theorem d_MD_read_257 : decode b_MD_read 257 = .ok (.iastore, 1) := by decide +kernel
theorem d_MD_read_258 : decode b_MD_read 258 = .ok (.iconst 2, 1) := by decide +kernel
theorem d_MD_read_259 : decode b_MD_read 259 = .ok (.istore_n 2, 1) := by decide +kernel
theorem d_MD_read_260 : decode b_MD_read 260 = .ok (.iconst 0, 1) := by decide +kernel
theorem d_MD_read_261 : decode b_MD_read 261 = .ok (.istore_n 3, 1) := by decide +kernel
theorem d_MD_read_262 : decode b_MD_read 262 = .ok (.goto 118, 3) := by decide +kernel
theorem d_MD_read_265 : decode b_MD_read 265 = .ok (.iload_n 2, 1) := by decide +kernel
theorem d_MD_read_266 : decode b_MD_read 266 = .ok (.iconst 2, 1) := by decide +kernel
theorem d_MD_read_267 : decode b_MD_read 267 = .ok (.if_icmp .lt 64, 3) := by decide +kernel
theorem d_MD_read_270 : decode b_MD_read 270 = .ok (.iload 8, 2) := by decide +kernel
theorem d_MD_read_272 : decode b_MD_read 272 = .ok (.ifCond .eq 59, 3) := by decide +kernel
theorem d_MD_read_275 : decode b_MD_read 275 = .ok (.iload_n 3, 1) := by decide +kernel
theorem d_MD_read_276 : decode b_MD_read 276 = .ok (.iload 9, 2) := by decide +kernel
theorem d_MD_read_278 : decode b_MD_read 278 = .ok (.if_icmp .ge 53, 3) := by decide +kernel
theorem d_MD_read_281 : decode b_MD_read 281 = .ok (.bipush 24, 2) := by decide +kernel
theorem d_MD_read_283 : decode b_MD_read 283 = .ok (.iconst 4, 1) := by decide +kernel
theorem d_MD_read_284 : decode b_MD_read 284 = .ok (.iload 4, 2) := by decide +kernel
theorem d_MD_read_286 : decode b_MD_read 286 = .ok (.imul, 1) := by decide +kernel
theorem d_MD_read_287 : decode b_MD_read 287 = .ok (.iadd, 1) := by decide +kernel
theorem d_MD_read_288 : decode b_MD_read 288 = .ok (.iload_n 2, 1) := by decide +kernel
theorem d_MD_read_289 : decode b_MD_read 289 = .ok (.iadd, 1) := by decide +kernel
theorem d_MD_read_290 : decode b_MD_read 290 = .ok (.iconst 2, 1) := by decide +kernel
theorem d_MD_read_291 : decode b_MD_read 291 = .ok (.isub, 1) := by decide +kernel
theorem d_MD_read_292 : decode b_MD_read 292 = .ok (.istore 11, 2) := by decide +kernel
theorem d_MD_read_294 : decode b_MD_read 294 = .ok (.aload_n 0, 1) := by decide +kernel
theorem d_MD_read_295 : decode b_MD_read 295 = .ok (.getfield 13, 3) := by decide +kernel
theorem d_MD_read_298 : decode b_MD_read 298 = .ok (.iload 11, 2) := by decide +kernel
theorem d_MD_read_300 : decode b_MD_read 300 = .ok (.iload_n 3, 1) := by decide +kernel
theorem d_MD_read_301 : decode b_MD_read 301 = .ok (.ifCond .ne 7, 3) := by decide +kernel
theorem d_MD_read_304 : decode b_MD_read 304 = .ok (.iconst 0, 1) := by decide +kernel
theorem d_MD_read_305 : decode b_MD_read 305 = .ok (.goto 13, 3) := by decide +kernel
theorem d_MD_read_308 : decode b_MD_read 308 = .ok (.bipush 10, 2) := by decide +kernel
theorem d_MD_read_310 : decode b_MD_read 310 = .ok (.aload_n 0, 1) := by decide +kernel
theorem d_MD_read_311 : decode b_MD_read 311 = .ok (.getfield 13, 3) := by decide +kernel
theorem d_MD_read_314 : decode b_MD_read 314 = .ok (.iload 11, 2) := by decide +kernel
theorem d_MD_read_316 : decode b_MD_read 316 = .ok (.iaload, 1) := by decide +kernel
theorem d_MD_read_317 : decode b_MD_read 317 = .ok (.imul, 1) := by decide +kernel
theorem d_MD_read_318 : decode b_MD_read 318 = .ok (.iload 7, 2) := by decide +kernel
theorem d_MD_read_320 : decode b_MD_read 320 = .ok (.iadd, 1) := by decide +kernel
theorem d_MD_read_321 : decode b_MD_read 321 = .ok (.bipush 48, 2) := by decide +kernel
theorem d_MD_read_323 : decode b_MD_read 323 = .ok (.isub, 1) := by decide +kernel
theorem d_MD_read_324 : decode b_MD_read 324 = .ok (.iastore, 1) := by decide +kernel
theorem d_MD_read_325 : decode b_MD_read 325 = .ok (.iinc 3 1, 3) := by decide +kernel
theorem d_MD_read_328 : decode b_MD_read 328 = .ok (.goto 52, 3) := by decide +kernel
theorem d_MD_read_331 : decode b_MD_read 331 = .ok (.iload 10, 2) := by decide +kernel
theorem d_MD_read_333 : decode b_MD_read 333 = .ok (.ifCond .eq 23, 3) := by decide +kernel
theorem d_MD_read_336 : decode b_MD_read 336 = .ok (.iload 7, 2) := by decide +kernel
theorem d_MD_read_338 : decode b_MD_read 338 = .ok (.invokestatic 92, 3) := by decide +kernel
theorem d_MD_read_341 : decode b_MD_read 341 = .ok (.iload_n 2, 1) := by decide +kernel
theorem d_MD_read_342 : decode b_MD_read 342 = .ok (.if_icmp .le 14, 3) := by decide +kernel
theorem d_MD_read_345 : decode b_MD_read 345 = .ok (.iload 7, 2) := by decide +kernel
theorem d_MD_read_347 : decode b_MD_read 347 = .ok (.invokestatic 92, 3) := by decide +kernel
theorem d_MD_read_350 : decode b_MD_read 350 = .ok (.istore_n 2, 1) := by decide +kernel
theorem d_MD_read_351 : decode b_MD_read 351 = .ok (.iconst 0, 1) := by decide +kernel
theorem d_MD_read_352 : decode b_MD_read 352 = .ok (.istore_n 3, 1) := by decide +kernel
theorem d_MD_read_353 : decode b_MD_read 353 = .ok (.goto 27, 3) := by decide +kernel
theorem d_MD_read_356 : decode b_MD_read 356 = .ok (.iload 10, 2) := by decide +kernel
theorem d_MD_read_358 : decode b_MD_read 358 = .ok (.ifCond .eq 18, 3) := by decide +kernel
theorem d_MD_read_361 : decode b_MD_read 361 = .ok (.iload 7, 2) := by decide +kernel
theorem d_MD_read_363 : decode b_MD_read 363 = .ok (.bipush 59, 2) := by decide +kernel
theorem d_MD_read_365 : decode b_MD_read 365 = .ok (.if_icmp .ne 11, 3) := by decide +kernel
theorem d_MD_read_368 : decode b_MD_read 368 = .ok (.iinc 1 1, 3) := by decide +kernel
theorem d_MD_read_371 : decode b_MD_read 371 = .ok (.iconst 0, 1) := by decide +kernel
theorem d_MD_read_372 : decode b_MD_read 372 = .ok (.istore_n 2, 1) := by decide +kernel
theorem d_MD_read_373 : decode b_MD_read 373 = .ok (.goto 7, 3) := by decide +kernel
theorem d_MD_read_376 : decode b_MD_read 376 = .ok (.iload 6, 2) := by decide +kernel
theorem d_MD_read_378 : decode b_MD_read 378 = .ok (.istore 5, 2) := by decide +kernel
theorem d_MD_read_380 : decode b_MD_read 380 = .ok (.iinc 6 1, 3) := by decide +kernel
theorem d_MD_read_383 : decode b_MD_read 383 = .ok (.goto (-315), 3) := by decide +kernel
theorem d_MD_read_386 : decode b_MD_read 386 = .ok (.iload 5, 2) := by decide +kernel
theorem d_MD_read_388 : decode b_MD_read 388 = .ok (.ifCond .ge 13, 3) := by decide +kernel
theorem d_MD_read_391 : decode b_MD_read 391 = .ok (.iload_n 2, 1) := by decide +kernel
theorem d_MD_read_392 : decode b_MD_read 392 = .ok (.ifCond .eq 9, 3) := by decide +kernel
theorem d_MD_read_395 : decode b_MD_read 395 = .ok (.aload_n 0, 1) := by decide +kernel
theorem d_MD_read_396 : decode b_MD_read 396 = .ok (.getfield 75, 3) := by decide +kernel
theorem d_MD_read_399 : decode b_MD_read 399 = .ok (.istore 5, 2) := by decide +kernel
theorem d_MD_read_401 : decode b_MD_read 401 = .ok (.aload_n 0, 1) := by decide +kernel
theorem d_MD_read_402 : decode b_MD_read 402 = .ok (.iconst 0, 1) := by decide +kernel
theorem d_MD_read_403 : decode b_MD_read 403 = .ok (.putfield 75, 3) := by decide +kernel
theorem d_MD_read_406 : decode b_MD_read 406 = .ok (.iload 5, 2) := by decide +kernel
theorem d_MD_read_408 : decode b_MD_read 408 = .ok (.ifCond .lt 8, 3) := by decide +kernel
theorem d_MD_read_411 : decode b_MD_read 411 = .ok (.iconst (-1), 1) := by decide +kernel
theorem d_MD_read_412 : decode b_MD_read 412 = .ok (.iload 5, 2) := by decide +kernel
theorem d_MD_read_414 : decode b_MD_read 414 = .ok (.isub, 1) := by decide +kernel
theorem d_MD_read_415 : decode b_MD_read 415 = .ok (.ireturn, 1) := by decide +kernel
theorem d_MD_read_416 : decode b_MD_read 416 = .ok (.aload_n 0, 1) := by decide +kernel
theorem d_MD_read_417 : decode b_MD_read 417 = .ok (.aload_n 0, 1) := by decide +kernel
theorem d_MD_read_418 : decode b_MD_read 418 = .ok (.getfield 81, 3) := by decide +kernel
theorem d_MD_read_421 : decode b_MD_read 421 = .ok (.putfield 78, 3) := by decide +kernel
theorem d_MD_read_424 : decode b_MD_read 424 = .ok (.iconst 0, 1) := by decide +kernel
theorem d_MD_read_425 : decode b_MD_read 425 = .ok (.istore 6, 2) := by decide +kernel
theorem d_MD_read_427 : decode b_MD_read 427 = .ok (.iload 6, 2) := by decide +kernel
theorem d_MD_read_429 : decode b_MD_read 429 = .ok (.bipush 24, 2) := by decide +kernel
theorem d_MD_read_431 : decode b_MD_read 431 = .ok (.if_icmp .ge 26, 3) := by decide +kernel
theorem d_MD_read_434 : decode b_MD_read 434 = .ok (.aload_n 0, 1) := by decide +kernel
theorem d_MD_read_435 : decode b_MD_read 435 = .ok (.getfield 13, 3) := by decide +kernel
theorem d_MD_read_438 : decode b_MD_read 438 = .ok (.iload 6, 2) := by decide +kernel
theorem d_MD_read_440 : decode b_MD_read 440 = .ok (.aload_n 0, 1) := by decide +kernel
theorem d_MD_read_441 : decode b_MD_read 441 = .ok (.getfield 13, 3) := by decide +kernel
theorem d_MD_read_444 : decode b_MD_read 444 = .ok (.bipush 24, 2) := by decide +kernel
theorem d_MD_read_446 : decode b_MD_read 446 = .ok (.iload 6, 2) := by decide +kernel
theorem d_MD_read_448 : decode b_MD_read 448 = .ok (.iadd, 1) := by decide +kernel
theorem d_MD_read_449 : decode b_MD_read 449 = .ok (.iaload, 1) := by decide +kernel
theorem d_MD_read_450 : decode b_MD_read 450 = .ok (.iastore, 1) := by decide +kernel
theorem d_MD_read_451 : decode b_MD_read 451 = .ok (.iinc 6 1, 3) := by decide +kernel
theorem d_MD_read_454 : decode b_MD_read 454 = .ok (.goto (-27), 3) := by decide +kernel
theorem d_MD_read_457 : decode b_MD_read 457 = .ok (.iload_n 1, 1) := by decide +kernel
theorem d_MD_read_458 : decode b_MD_read 458 = .ok (.ireturn, 1) := by decide +kernel
theorem d_MD_tariff_0 : decode b_MD_tariff 0 = .ok (.iload_n 1, 1) := by decide +kernel
theorem d_MD_tariff_1 : decode b_MD_tariff 1 = .ok (.invokestatic 96, 3) := by decide +kernel
theorem d_MD_tariff_4 : decode b_MD_tariff 4 = .ok (.ifCond .eq 15, 3) := by decide +kernel
theorem d_MD_tariff_7 : decode b_MD_tariff 7 = .ok (.iload_n 2, 1) := by decide +kernel
theorem d_MD_tariff_8 : decode b_MD_tariff 8 = .ok (.i2l, 1) := by decide +kernel
theorem d_MD_tariff_9 : decode b_MD_tariff 9 = .ok (.lconst 0, 1) := by decide +kernel
theorem d_MD_tariff_10 : decode b_MD_tariff 10 = .ok (.ldc2_w 100, 3) := by decide +kernel
theorem d_MD_tariff_13 : decode b_MD_tariff 13 = .ok (.invokestatic 71, 3) := by decide +kernel
theorem d_MD_tariff_16 : decode b_MD_tariff 16 = .ok (.ifCond .ne 9, 3) := by decide +kernel
theorem d_MD_tariff_19 : decode b_MD_tariff 19 = .ok (.aload_n 0, 1) := by decide +kernel
theorem d_MD_tariff_20 : decode b_MD_tariff 20 = .ok (.iconst 1, 1) := by decide +kernel
theorem d_MD_tariff_21 : decode b_MD_tariff 21 = .ok (.invokevirtual 102, 3) := by decide +kernel
theorem d_MD_tariff_24 : decode b_MD_tariff 24 = .ok (.ireturn, 1) := by decide +kernel
theorem d_MD_tariff_25 : decode b_MD_tariff 25 = .ok (.aload_n 0, 1) := by decide +kernel
theorem d_MD_tariff_26 : decode b_MD_tariff 26 = .ok (.iconst 0, 1) := by decide +kernel
theorem d_MD_tariff_27 : decode b_MD_tariff 27 = .ok (.putfield 63, 3) := by decide +kernel
theorem d_MD_tariff_30 : decode b_MD_tariff 30 = .ok (.aload_n 0, 1) := by decide +kernel
theorem d_MD_tariff_31 : decode b_MD_tariff 31 = .ok (.getfield 78, 3) := by decide +kernel
theorem d_MD_tariff_34 : decode b_MD_tariff 34 = .ok (.iload_n 1, 1) := by decide +kernel
theorem d_MD_tariff_35 : decode b_MD_tariff 35 = .ok (.ishr, 1) := by decide +kernel
theorem d_MD_tariff_36 : decode b_MD_tariff 36 = .ok (.iconst 1, 1) := by decide +kernel
theorem d_MD_tariff_37 : decode b_MD_tariff 37 = .ok (.iand, 1) := by decide +kernel
theorem d_MD_tariff_38 : decode b_MD_tariff 38 = .ok (.ifCond .ne 7, 3) := by decide +kernel
theorem d_MD_tariff_41 : decode b_MD_tariff 41 = .ok (.iconst (-1), 1) := by decide +kernel
theorem d_MD_tariff_42 : decode b_MD_tariff 42 = .ok (.goto 13, 3) := by decide +kernel
theorem d_MD_tariff_45 : decode b_MD_tariff 45 = .ok (.aload_n 0, 1) := by decide +kernel
theorem d_MD_tariff_46 : decode b_MD_tariff 46 = .ok (.getfield 13, 3) := by decide +kernel
theorem d_MD_tariff_49 : decode b_MD_tariff 49 = .ok (.iconst 4, 1) := by decide +kernel
theorem d_MD_tariff_50 : decode b_MD_tariff 50 = .ok (.iload_n 1, 1) := by decide +kernel
theorem d_MD_tariff_51 : decode b_MD_tariff 51 = .ok (.imul, 1) := by decide +kernel
theorem d_MD_tariff_52 : decode b_MD_tariff 52 = .ok (.iload_n 2, 1) := by decide +kernel
theorem d_MD_tariff_53 : decode b_MD_tariff 53 = .ok (.iadd, 1) := by decide +kernel
theorem d_MD_tariff_54 : decode b_MD_tariff 54 = .ok (.iaload, 1) := by decide +kernel
theorem d_MD_tariff_55 : decode b_MD_tariff 55 = .ok (.ireturn, 1) := by decide +kernel
theorem d_MD_event_0 : decode b_MD_event 0 = .ok (.iload_n 1, 1) := by decide +kernel
theorem d_MD_event_1 : decode b_MD_event 1 = .ok (.invokestatic 105, 3) := by decide +kernel
theorem d_MD_event_4 : decode b_MD_event 4 = .ok (.ifCond .eq 22, 3) := by decide +kernel
theorem d_MD_event_7 : decode b_MD_event 7 = .ok (.iload_n 2, 1) := by decide +kernel
theorem d_MD_event_8 : decode b_MD_event 8 = .ok (.invokestatic 96, 3) := by decide +kernel
theorem d_MD_event_11 : decode b_MD_event 11 = .ok (.ifCond .eq 15, 3) := by decide +kernel
theorem d_MD_event_14 : decode b_MD_event 14 = .ok (.iload_n 3, 1) := by decide +kernel
theorem d_MD_event_15 : decode b_MD_event 15 = .ok (.i2l, 1) := by decide +kernel
theorem d_MD_event_16 : decode b_MD_event 16 = .ok (.lconst 1, 1) := by decide +kernel
theorem d_MD_event_17 : decode b_MD_event 17 = .ok (.ldc2_w 108, 3) := by decide +kernel
theorem d_MD_event_20 : decode b_MD_event 20 = .ok (.invokestatic 71, 3) := by decide +kernel
theorem d_MD_event_23 : decode b_MD_event 23 = .ok (.ifCond .ne 9, 3) := by decide +kernel
theorem d_MD_event_26 : decode b_MD_event 26 = .ok (.aload_n 0, 1) := by decide +kernel
theorem d_MD_event_27 : decode b_MD_event 27 = .ok (.iconst 1, 1) := by decide +kernel
theorem d_MD_event_28 : decode b_MD_event 28 = .ok (.invokevirtual 102, 3) := by decide +kernel
theorem d_MD_event_31 : decode b_MD_event 31 = .ok (.ireturn, 1) := by decide +kernel
theorem d_MD_event_32 : decode b_MD_event 32 = .ok (.aload_n 0, 1) := by decide +kernel
theorem d_MD_event_33 : decode b_MD_event 33 = .ok (.getfield 110, 3) := by decide +kernel
theorem d_MD_event_36 : decode b_MD_event 36 = .ok (.bipush 100, 2) := by decide +kernel
theorem d_MD_event_38 : decode b_MD_event 38 = .ok (.if_icmp .ne 9, 3) := by decide +kernel
theorem d_MD_event_41 : decode b_MD_event 41 = .ok (.aload_n 0, 1) := by decide +kernel
theorem d_MD_event_42 : decode b_MD_event 42 = .ok (.iconst 2, 1) := by decide +kernel
theorem d_MD_event_43 : decode b_MD_event 43 = .ok (.invokevirtual 102, 3) := by decide +kernel
theorem d_MD_event_46 : decode b_MD_event 46 = .ok (.ireturn, 1) := by decide +kernel
theorem d_MD_event_47 : decode b_MD_event 47 = .ok (.aload_n 0, 1) := by decide +kernel
theorem d_MD_event_48 : decode b_MD_event 48 = .ok (.iconst 0, 1) := by decide +kernel
theorem d_MD_event_49 : decode b_MD_event 49 = .ok (.putfield 63, 3) := by decide +kernel
theorem d_MD_event_52 : decode b_MD_event 52 = .ok (.aload_n 0, 1) := by decide +kernel
theorem d_MD_event_53 : decode b_MD_event 53 = .ok (.getfield 16, 3) := by decide +kernel
theorem d_MD_event_56 : decode b_MD_event 56 = .ok (.aload_n 0, 1) := by decide +kernel
theorem d_MD_event_57 : decode b_MD_event 57 = .ok (.getfield 110, 3) := by decide +kernel
theorem d_MD_event_60 : decode b_MD_event 60 = .ok (.iload_n 1, 1) := by decide +kernel
theorem d_MD_event_61 : decode b_MD_event 61 = .ok (.iastore, 1) := by decide +kernel
theorem d_MD_event_62 : decode b_MD_event 62 = .ok (.aload_n 0, 1) := by decide +kernel
theorem d_MD_event_63 : decode b_MD_event 63 = .ok (.getfield 19, 3) := by decide +kernel
theorem d_MD_event_66 : decode b_MD_event 66 = .ok (.aload_n 0, 1) := by decide +kernel
theorem d_MD_event_67 : decode b_MD_event 67 = .ok (.getfield 110, 3) := by decide +kernel
theorem d_MD_event_70 : decode b_MD_event 70 = .ok (.iload_n 2, 1) := by decide +kernel
theorem d_MD_event_71 : decode b_MD_event 71 = .ok (.iastore, 1) := by decide +kernel
theorem d_MD_event_72 : decode b_MD_event 72 = .ok (.aload_n 0, 1) := by decide +kernel
theorem d_MD_event_73 : decode b_MD_event 73 = .ok (.getfield 22, 3) := by decide +kernel
theorem d_MD_event_76 : decode b_MD_event 76 = .ok (.aload_n 0, 1) := by decide +kernel
theorem d_MD_event_77 : decode b_MD_event 77 = .ok (.getfield 110, 3) := by decide +kernel
theorem d_MD_event_80 : decode b_MD_event 80 = .ok (.iload_n 3, 1) := by decide +kernel
theorem d_MD_event_81 : decode b_MD_event 81 = .ok (.iload_n 2, 1) := by decide +kernel
theorem d_MD_event_82 : decode b_MD_event 82 = .ok (.invokestatic 113, 3) := by decide +kernel
theorem d_MD_event_85 : decode b_MD_event 85 = .ok (.idiv, 1) := by decide +kernel
theorem d_MD_event_86 : decode b_MD_event 86 = .ok (.iload_n 3, 1) := by decide +kernel
theorem d_MD_event_87 : decode b_MD_event 87 = .ok (.iload_n 2, 1) := by decide +kernel
theorem d_MD_event_88 : decode b_MD_event 88 = .ok (.invokestatic 113, 3) := by decide +kernel
theorem d_MD_event_91 : decode b_MD_event 91 = .ok (.irem, 1) := by decide +kernel
theorem d_MD_event_92 : decode b_MD_event 92 = .ok (.ifCond .le 7, 3) := by decide +kernel
theorem d_MD_event_95 : decode b_MD_event 95 = .ok (.iconst 1, 1) := by decide +kernel
theorem d_MD_event_96 : decode b_MD_event 96 = .ok (.goto 4, 3) := by decide +kernel
theorem d_MD_event_99 : decode b_MD_event 99 = .ok (.iconst 0, 1) := by decide +kernel
theorem d_MD_event_100 : decode b_MD_event 100 = .ok (.iadd, 1) := by decide +kernel
theorem d_MD_event_101 : decode b_MD_event 101 = .ok (.iastore, 1) := by decide +kernel
theorem d_MD_event_102 : decode b_MD_event 102 = .ok (.aload_n 0, 1) := by decide +kernel
theorem d_MD_event_103 : decode b_MD_event 103 = .ok (.dup, 1) := by decide +kernel
theorem d_MD_event_104 : decode b_MD_event 104 = .ok (.getfield 110, 3) := by decide +kernel
theorem d_MD_event_107 : decode b_MD_event 107 = .ok (.iconst 1, 1) := by decide +kernel
theorem d_MD_event_108 : decode b_MD_event 108 = .ok (.iadd, 1) := by decide +kernel
theorem d_MD_event_109 : decode b_MD_event 109 = .ok (.putfield 110, 3) := by decide +kernel
theorem d_MD_event_112 : decode b_MD_event 112 = .ok (.aload_n 0, 1) := by decide +kernel
theorem d_MD_event_113 : decode b_MD_event 113 = .ok (.getfield 22, 3) := by decide +kernel
theorem d_MD_event_116 : decode b_MD_event 116 = .ok (.aload_n 0, 1) := by decide +kernel
theorem d_MD_event_117 : decode b_MD_event 117 = .ok (.getfield 110, 3) := by decide +kernel
theorem d_MD_event_120 : decode b_MD_event 120 = .ok (.iconst 1, 1) := by decide +kernel
theorem d_MD_event_121 : decode b_MD_event 121 = .ok (.isub, 1) := by decide +kernel
theorem d_MD_event_122 : decode b_MD_event 122 = .ok (.iaload, 1) := by decide +kernel
theorem d_MD_event_123 : decode b_MD_event 123 = .ok (.ireturn, 1) := by decide +kernel
theorem d_MD_discount_0 : decode b_MD_discount 0 = .ok (.aload_n 0, 1) := by decide +kernel
theorem d_MD_discount_1 : decode b_MD_discount 1 = .ok (.iconst 0, 1) := by decide +kernel
theorem d_MD_discount_2 : decode b_MD_discount 2 = .ok (.putfield 63, 3) := by decide +kernel
theorem d_MD_discount_5 : decode b_MD_discount 5 = .ok (.iload_n 1, 1) := by decide +kernel
theorem d_MD_discount_6 : decode b_MD_discount 6 = .ok (.invokestatic 105, 3) := by decide +kernel
theorem d_MD_discount_9 : decode b_MD_discount 9 = .ok (.ifCond .eq 35, 3) := by decide +kernel
theorem d_MD_discount_12 : decode b_MD_discount 12 = .ok (.iload_n 2, 1) := by decide +kernel
theorem d_MD_discount_13 : decode b_MD_discount 13 = .ok (.invokestatic 96, 3) := by decide +kernel
theorem d_MD_discount_16 : decode b_MD_discount 16 = .ok (.ifCond .eq 28, 3) := by decide +kernel
theorem d_MD_discount_19 : decode b_MD_discount 19 = .ok (.iload 4, 2) := by decide +kernel
theorem d_MD_discount_21 : decode b_MD_discount 21 = .ok (.i2l, 1) := by decide +kernel
theorem d_MD_discount_22 : decode b_MD_discount 22 = .ok (.lconst 1, 1) := by decide +kernel
theorem d_MD_discount_23 : decode b_MD_discount 23 = .ok (.ldc2_w 116, 3) := by decide +kernel
theorem d_MD_discount_26 : decode b_MD_discount 26 = .ok (.invokestatic 71, 3) := by decide +kernel
theorem d_MD_discount_29 : decode b_MD_discount 29 = .ok (.ifCond .eq 15, 3) := by decide +kernel
theorem d_MD_discount_32 : decode b_MD_discount 32 = .ok (.iload_n 3, 1) := by decide +kernel
theorem d_MD_discount_33 : decode b_MD_discount 33 = .ok (.i2l, 1) := by decide +kernel
theorem d_MD_discount_34 : decode b_MD_discount 34 = .ok (.lconst 0, 1) := by decide +kernel
theorem d_MD_discount_35 : decode b_MD_discount 35 = .ok (.iload 4, 2) := by decide +kernel
theorem d_MD_discount_37 : decode b_MD_discount 37 = .ok (.i2l, 1) := by decide +kernel
theorem d_MD_discount_38 : decode b_MD_discount 38 = .ok (.invokestatic 71, 3) := by decide +kernel
theorem d_MD_discount_41 : decode b_MD_discount 41 = .ok (.ifCond .ne 5, 3) := by decide +kernel
theorem d_MD_discount_44 : decode b_MD_discount 44 = .ok (.iconst 0, 1) := by decide +kernel
theorem d_MD_discount_45 : decode b_MD_discount 45 = .ok (.ireturn, 1) := by decide +kernel
theorem d_MD_discount_46 : decode b_MD_discount 46 = .ok (.bipush 6, 2) := by decide +kernel
theorem d_MD_discount_48 : decode b_MD_discount 48 = .ok (.iload_n 1, 1) := by decide +kernel
theorem d_MD_discount_49 : decode b_MD_discount 49 = .ok (.imul, 1) := by decide +kernel
theorem d_MD_discount_50 : decode b_MD_discount 50 = .ok (.iload_n 2, 1) := by decide +kernel
theorem d_MD_discount_51 : decode b_MD_discount 51 = .ok (.iadd, 1) := by decide +kernel
theorem d_MD_discount_52 : decode b_MD_discount 52 = .ok (.istore 5, 2) := by decide +kernel
theorem d_MD_discount_54 : decode b_MD_discount 54 = .ok (.aload_n 0, 1) := by decide +kernel
theorem d_MD_discount_55 : decode b_MD_discount 55 = .ok (.getfield 25, 3) := by decide +kernel
theorem d_MD_discount_58 : decode b_MD_discount 58 = .ok (.iload 5, 2) := by decide +kernel
theorem d_MD_discount_60 : decode b_MD_discount 60 = .ok (.iaload, 1) := by decide +kernel
theorem d_MD_discount_61 : decode b_MD_discount 61 = .ok (.iconst 3, 1) := by decide +kernel
theorem d_MD_discount_62 : decode b_MD_discount 62 = .ok (.if_icmp .ne 5, 3) := by decide +kernel
theorem d_MD_discount_65 : decode b_MD_discount 65 = .ok (.iconst 0, 1) := by decide +kernel
theorem d_MD_discount_66 : decode b_MD_discount 66 = .ok (.ireturn, 1) := by decide +kernel
theorem d_MD_discount_67 : decode b_MD_discount 67 = .ok (.aload_n 0, 1) := by decide +kernel
theorem d_MD_discount_68 : decode b_MD_discount 68 = .ok (.getfield 28, 3) := by decide +kernel
theorem d_MD_discount_71 : decode b_MD_discount 71 = .ok (.iconst 3, 1) := by decide +kernel
theorem d_MD_discount_72 : decode b_MD_discount 72 = .ok (.iload 5, 2) := by decide +kernel
theorem d_MD_discount_74 : decode b_MD_discount 74 = .ok (.imul, 1) := by decide +kernel
theorem d_MD_discount_75 : decode b_MD_discount 75 = .ok (.aload_n 0, 1) := by decide +kernel
theorem d_MD_discount_76 : decode b_MD_discount 76 = .ok (.getfield 25, 3) := by decide +kernel
theorem d_MD_discount_79 : decode b_MD_discount 79 = .ok (.iload 5, 2) := by decide +kernel
theorem d_MD_discount_81 : decode b_MD_discount 81 = .ok (.iaload, 1) := by decide +kernel
theorem d_MD_discount_82 : decode b_MD_discount 82 = .ok (.iadd, 1) := by decide +kernel
theorem d_MD_discount_83 : decode b_MD_discount 83 = .ok (.iload_n 3, 1) := by decide +kernel
theorem d_MD_discount_84 : decode b_MD_discount 84 = .ok (.iastore, 1) := by decide +kernel
theorem d_MD_discount_85 : decode b_MD_discount 85 = .ok (.aload_n 0, 1) := by decide +kernel
theorem d_MD_discount_86 : decode b_MD_discount 86 = .ok (.getfield 31, 3) := by decide +kernel
theorem d_MD_discount_89 : decode b_MD_discount 89 = .ok (.iconst 3, 1) := by decide +kernel
theorem d_MD_discount_90 : decode b_MD_discount 90 = .ok (.iload 5, 2) := by decide +kernel
theorem d_MD_discount_92 : decode b_MD_discount 92 = .ok (.imul, 1) := by decide +kernel
theorem d_MD_discount_93 : decode b_MD_discount 93 = .ok (.aload_n 0, 1) := by decide +kernel
theorem d_MD_discount_94 : decode b_MD_discount 94 = .ok (.getfield 25, 3) := by decide +kernel
theorem d_MD_discount_97 : decode b_MD_discount 97 = .ok (.iload 5, 2) := by decide +kernel
theorem d_MD_discount_99 : decode b_MD_discount 99 = .ok (.iaload, 1) := by decide +kernel
theorem d_MD_discount_100 : decode b_MD_discount 100 = .ok (.iadd, 1) := by decide +kernel
theorem d_MD_discount_101 : decode b_MD_discount 101 = .ok (.iload 4, 2) := by decide +kernel
theorem d_MD_discount_103 : decode b_MD_discount 103 = .ok (.iastore, 1) := by decide +kernel
theorem d_MD_discount_104 : decode b_MD_discount 104 = .ok (.aload_n 0, 1) := by decide +kernel
theorem d_MD_discount_105 : decode b_MD_discount 105 = .ok (.getfield 25, 3) := by decide +kernel
theorem d_MD_discount_108 : decode b_MD_discount 108 = .ok (.iload 5, 2) := by decide +kernel
theorem d_MD_discount_110 : decode b_MD_discount 110 = .ok (.dup2, 1) := by decide +kernel
theorem d_MD_discount_111 : decode b_MD_discount 111 = .ok (.iaload, 1) := by decide +kernel
theorem d_MD_discount_112 : decode b_MD_discount 112 = .ok (.iconst 1, 1) := by decide +kernel
theorem d_MD_discount_113 : decode b_MD_discount 113 = .ok (.iadd, 1) := by decide +kernel
theorem d_MD_discount_114 : decode b_MD_discount 114 = .ok (.iastore, 1) := by decide +kernel
theorem d_MD_discount_115 : decode b_MD_discount 115 = .ok (.iconst 1, 1) := by decide +kernel
theorem d_MD_discount_116 : decode b_MD_discount 116 = .ok (.ireturn, 1) := by decide +kernel
theorem d_MD_unitsOf_0 : decode b_MD_unitsOf 0 = .ok (.iconst 0, 1) := by decide +kernel
theorem d_MD_unitsOf_1 : decode b_MD_unitsOf 1 = .ok (.istore_n 3, 1) := by decide +kernel
theorem d_MD_unitsOf_2 : decode b_MD_unitsOf 2 = .ok (.iconst 0, 1) := by decide +kernel
theorem d_MD_unitsOf_3 : decode b_MD_unitsOf 3 = .ok (.istore 4, 2) := by decide +kernel
theorem d_MD_unitsOf_5 : decode b_MD_unitsOf 5 = .ok (.iload 4, 2) := by decide +kernel
theorem d_MD_unitsOf_7 : decode b_MD_unitsOf 7 = .ok (.aload_n 0, 1) := by decide +kernel
theorem d_MD_unitsOf_8 : decode b_MD_unitsOf 8 = .ok (.getfield 110, 3) := by decide +kernel
theorem d_MD_unitsOf_11 : decode b_MD_unitsOf 11 = .ok (.if_icmp .ge 45, 3) := by decide +kernel
theorem d_MD_unitsOf_14 : decode b_MD_unitsOf 14 = .ok (.iload_n 3, 1) := by decide +kernel
theorem d_MD_unitsOf_15 : decode b_MD_unitsOf 15 = .ok (.aload_n 0, 1) := by decide +kernel
theorem d_MD_unitsOf_16 : decode b_MD_unitsOf 16 = .ok (.getfield 16, 3) := by decide +kernel
theorem d_MD_unitsOf_19 : decode b_MD_unitsOf 19 = .ok (.iload 4, 2) := by decide +kernel
theorem d_MD_unitsOf_21 : decode b_MD_unitsOf 21 = .ok (.iaload, 1) := by decide +kernel
theorem d_MD_unitsOf_22 : decode b_MD_unitsOf 22 = .ok (.iload_n 1, 1) := by decide +kernel
theorem d_MD_unitsOf_23 : decode b_MD_unitsOf 23 = .ok (.if_icmp .ne 24, 3) := by decide +kernel
theorem d_MD_unitsOf_26 : decode b_MD_unitsOf 26 = .ok (.aload_n 0, 1) := by decide +kernel
theorem d_MD_unitsOf_27 : decode b_MD_unitsOf 27 = .ok (.getfield 19, 3) := by decide +kernel
theorem d_MD_unitsOf_30 : decode b_MD_unitsOf 30 = .ok (.iload 4, 2) := by decide +kernel
theorem d_MD_unitsOf_32 : decode b_MD_unitsOf 32 = .ok (.iaload, 1) := by decide +kernel
theorem d_MD_unitsOf_33 : decode b_MD_unitsOf 33 = .ok (.iload_n 2, 1) := by decide +kernel
theorem d_MD_unitsOf_34 : decode b_MD_unitsOf 34 = .ok (.if_icmp .ne 13, 3) := by decide +kernel
theorem d_MD_unitsOf_37 : decode b_MD_unitsOf 37 = .ok (.aload_n 0, 1) := by decide +kernel
theorem d_MD_unitsOf_38 : decode b_MD_unitsOf 38 = .ok (.getfield 22, 3) := by decide +kernel
theorem d_MD_unitsOf_41 : decode b_MD_unitsOf 41 = .ok (.iload 4, 2) := by decide +kernel
theorem d_MD_unitsOf_43 : decode b_MD_unitsOf 43 = .ok (.iaload, 1) := by decide +kernel
theorem d_MD_unitsOf_44 : decode b_MD_unitsOf 44 = .ok (.goto 4, 3) := by decide +kernel
theorem d_MD_unitsOf_47 : decode b_MD_unitsOf 47 = .ok (.iconst 0, 1) := by decide +kernel
theorem d_MD_unitsOf_48 : decode b_MD_unitsOf 48 = .ok (.iadd, 1) := by decide +kernel
theorem d_MD_unitsOf_49 : decode b_MD_unitsOf 49 = .ok (.istore_n 3, 1) := by decide +kernel
theorem d_MD_unitsOf_50 : decode b_MD_unitsOf 50 = .ok (.iinc 4 1, 3) := by decide +kernel
theorem d_MD_unitsOf_53 : decode b_MD_unitsOf 53 = .ok (.goto (-48), 3) := by decide +kernel
theorem d_MD_unitsOf_56 : decode b_MD_unitsOf 56 = .ok (.iload_n 3, 1) := by decide +kernel
theorem d_MD_unitsOf_57 : decode b_MD_unitsOf 57 = .ok (.ireturn, 1) := by decide +kernel
theorem d_MD_newLine_0 : decode b_MD_newLine 0 = .ok (.aload_n 0, 1) := by decide +kernel
theorem d_MD_newLine_1 : decode b_MD_newLine 1 = .ok (.getfield 34, 3) := by decide +kernel
theorem d_MD_newLine_4 : decode b_MD_newLine 4 = .ok (.aload_n 0, 1) := by decide +kernel
theorem d_MD_newLine_5 : decode b_MD_newLine 5 = .ok (.getfield 118, 3) := by decide +kernel
theorem d_MD_newLine_8 : decode b_MD_newLine 8 = .ok (.iload_n 1, 1) := by decide +kernel
theorem d_MD_newLine_9 : decode b_MD_newLine 9 = .ok (.iastore, 1) := by decide +kernel
theorem d_MD_newLine_10 : decode b_MD_newLine 10 = .ok (.aload_n 0, 1) := by decide +kernel
theorem d_MD_newLine_11 : decode b_MD_newLine 11 = .ok (.getfield 37, 3) := by decide +kernel
theorem d_MD_newLine_14 : decode b_MD_newLine 14 = .ok (.aload_n 0, 1) := by decide +kernel
theorem d_MD_newLine_15 : decode b_MD_newLine 15 = .ok (.getfield 118, 3) := by decide +kernel
theorem d_MD_newLine_18 : decode b_MD_newLine 18 = .ok (.iload_n 2, 1) := by decide +kernel
theorem d_MD_newLine_19 : decode b_MD_newLine 19 = .ok (.iastore, 1) := by decide +kernel
theorem d_MD_newLine_20 : decode b_MD_newLine 20 = .ok (.aload_n 0, 1) := by decide +kernel
theorem d_MD_newLine_21 : decode b_MD_newLine 21 = .ok (.getfield 40, 3) := by decide +kernel
theorem d_MD_newLine_24 : decode b_MD_newLine 24 = .ok (.aload_n 0, 1) := by decide +kernel
theorem d_MD_newLine_25 : decode b_MD_newLine 25 = .ok (.getfield 118, 3) := by decide +kernel
theorem d_MD_newLine_28 : decode b_MD_newLine 28 = .ok (.iload_n 3, 1) := by decide +kernel
theorem d_MD_newLine_29 : decode b_MD_newLine 29 = .ok (.iastore, 1) := by decide +kernel
theorem d_MD_newLine_30 : decode b_MD_newLine 30 = .ok (.aload_n 0, 1) := by decide +kernel
theorem d_MD_newLine_31 : decode b_MD_newLine 31 = .ok (.getfield 43, 3) := by decide +kernel
theorem d_MD_newLine_34 : decode b_MD_newLine 34 = .ok (.aload_n 0, 1) := by decide +kernel
theorem d_MD_newLine_35 : decode b_MD_newLine 35 = .ok (.getfield 118, 3) := by decide +kernel
theorem d_MD_newLine_38 : decode b_MD_newLine 38 = .ok (.iload 4, 2) := by decide +kernel
theorem d_MD_newLine_40 : decode b_MD_newLine 40 = .ok (.iastore, 1) := by decide +kernel
theorem d_MD_newLine_41 : decode b_MD_newLine 41 = .ok (.aload_n 0, 1) := by decide +kernel
theorem d_MD_newLine_42 : decode b_MD_newLine 42 = .ok (.getfield 46, 3) := by decide +kernel
theorem d_MD_newLine_45 : decode b_MD_newLine 45 = .ok (.aload_n 0, 1) := by decide +kernel
theorem d_MD_newLine_46 : decode b_MD_newLine 46 = .ok (.getfield 118, 3) := by decide +kernel
theorem d_MD_newLine_49 : decode b_MD_newLine 49 = .ok (.lload 5, 2) := by decide +kernel
theorem d_MD_newLine_51 : decode b_MD_newLine 51 = .ok (.lastore, 1) := by decide +kernel
theorem d_MD_newLine_52 : decode b_MD_newLine 52 = .ok (.aload_n 0, 1) := by decide +kernel
theorem d_MD_newLine_53 : decode b_MD_newLine 53 = .ok (.getfield 50, 3) := by decide +kernel
theorem d_MD_newLine_56 : decode b_MD_newLine 56 = .ok (.aload_n 0, 1) := by decide +kernel
theorem d_MD_newLine_57 : decode b_MD_newLine 57 = .ok (.getfield 118, 3) := by decide +kernel
theorem d_MD_newLine_60 : decode b_MD_newLine 60 = .ok (.iload 7, 2) := by decide +kernel
theorem d_MD_newLine_62 : decode b_MD_newLine 62 = .ok (.iastore, 1) := by decide +kernel
theorem d_MD_newLine_63 : decode b_MD_newLine 63 = .ok (.aload_n 0, 1) := by decide +kernel
theorem d_MD_newLine_64 : decode b_MD_newLine 64 = .ok (.dup, 1) := by decide +kernel
theorem d_MD_newLine_65 : decode b_MD_newLine 65 = .ok (.getfield 118, 3) := by decide +kernel
theorem d_MD_newLine_68 : decode b_MD_newLine 68 = .ok (.iconst 1, 1) := by decide +kernel
theorem d_MD_newLine_69 : decode b_MD_newLine 69 = .ok (.iadd, 1) := by decide +kernel
theorem d_MD_newLine_70 : decode b_MD_newLine 70 = .ok (.putfield 118, 3) := by decide +kernel
theorem d_MD_newLine_73 : decode b_MD_newLine 73 = .ok (.return_, 1) := by decide +kernel
theorem d_MD_billKind_0 : decode b_MD_billKind 0 = .ok (.aload_n 0, 1) := by decide +kernel
theorem d_MD_billKind_1 : decode b_MD_billKind 1 = .ok (.getfield 78, 3) := by decide +kernel
theorem d_MD_billKind_4 : decode b_MD_billKind 4 = .ok (.iload_n 2, 1) := by decide +kernel
theorem d_MD_billKind_5 : decode b_MD_billKind 5 = .ok (.ishr, 1) := by decide +kernel
theorem d_MD_billKind_6 : decode b_MD_billKind 6 = .ok (.iconst 1, 1) := by decide +kernel
theorem d_MD_billKind_7 : decode b_MD_billKind 7 = .ok (.iand, 1) := by decide +kernel
theorem d_MD_billKind_8 : decode b_MD_billKind 8 = .ok (.iconst 1, 1) := by decide +kernel
theorem d_MD_billKind_9 : decode b_MD_billKind 9 = .ok (.if_icmp .ne 7, 3) := by decide +kernel
theorem d_MD_billKind_12 : decode b_MD_billKind 12 = .ok (.iconst 1, 1) := by decide +kernel
theorem d_MD_billKind_13 : decode b_MD_billKind 13 = .ok (.goto 4, 3) := by decide +kernel
theorem d_MD_billKind_16 : decode b_MD_billKind 16 = .ok (.iconst 0, 1) := by decide +kernel
theorem d_MD_billKind_17 : decode b_MD_billKind 17 = .ok (.istore_n 3, 1) := by decide +kernel
theorem d_MD_billKind_18 : decode b_MD_billKind 18 = .ok (.aload_n 0, 1) := by decide +kernel
theorem d_MD_billKind_19 : decode b_MD_billKind 19 = .ok (.iload_n 1, 1) := by decide +kernel
theorem d_MD_billKind_20 : decode b_MD_billKind 20 = .ok (.iload_n 2, 1) := by decide +kernel
theorem d_MD_billKind_21 : decode b_MD_billKind 21 = .ok (.invokevirtual 121, 3) := by decide +kernel
theorem d_MD_billKind_24 : decode b_MD_billKind 24 = .ok (.istore 4, 2) := by decide +kernel
theorem d_MD_billKind_26 : decode b_MD_billKind 26 = .ok (.iload_n 3, 1) := by decide +kernel
theorem d_MD_billKind_27 : decode b_MD_billKind 27 = .ok (.ifCond .eq 16, 3) := by decide +kernel
theorem d_MD_billKind_30 : decode b_MD_billKind 30 = .ok (.aload_n 0, 1) := by decide +kernel
theorem d_MD_billKind_31 : decode b_MD_billKind 31 = .ok (.getfield 13, 3) := by decide +kernel
theorem d_MD_billKind_34 : decode b_MD_billKind 34 = .ok (.iconst 4, 1) := by decide +kernel
theorem d_MD_billKind_35 : decode b_MD_billKind 35 = .ok (.iload_n 2, 1) := by decide +kernel
theorem d_MD_billKind_36 : decode b_MD_billKind 36 = .ok (.imul, 1) := by decide +kernel
theorem d_MD_billKind_37 : decode b_MD_billKind 37 = .ok (.iconst 2, 1) := by decide +kernel
theorem d_MD_billKind_38 : decode b_MD_billKind 38 = .ok (.iadd, 1) := by decide +kernel
theorem d_MD_billKind_39 : decode b_MD_billKind 39 = .ok (.iaload, 1) := by decide +kernel
theorem d_MD_billKind_40 : decode b_MD_billKind 40 = .ok (.goto 4, 3) := by decide +kernel
theorem d_MD_billKind_43 : decode b_MD_billKind 43 = .ok (.iconst 0, 1) := by decide +kernel
theorem d_MD_billKind_44 : decode b_MD_billKind 44 = .ok (.istore 5, 2) := by decide +kernel
theorem d_MD_billKind_46 : decode b_MD_billKind 46 = .ok (.iload 4, 2) := by decide +kernel
theorem d_MD_billKind_48 : decode b_MD_billKind 48 = .ok (.iload 5, 2) := by decide +kernel
theorem d_MD_billKind_50 : decode b_MD_billKind 50 = .ok (.if_icmp .le 11, 3) := by decide +kernel
theorem d_MD_billKind_53 : decode b_MD_billKind 53 = .ok (.iload 4, 2) := by decide +kernel
theorem d_MD_billKind_55 : decode b_MD_billKind 55 = .ok (.iload 5, 2) := by decide +kernel
theorem d_MD_billKind_57 : decode b_MD_billKind 57 = .ok (.isub, 1) := by decide +kernel
theorem d_MD_billKind_58 : decode b_MD_billKind 58 = .ok (.goto 4, 3) := by decide +kernel
theorem d_MD_billKind_61 : decode b_MD_billKind 61 = .ok (.iconst 0, 1) := by decide +kernel
theorem d_MD_billKind_62 : decode b_MD_billKind 62 = .ok (.istore 6, 2) := by decide +kernel
theorem d_MD_billKind_64 : decode b_MD_billKind 64 = .ok (.iload_n 3, 1) := by decide +kernel
theorem d_MD_billKind_65 : decode b_MD_billKind 65 = .ok (.ifCond .eq 14, 3) := by decide +kernel
theorem d_MD_billKind_68 : decode b_MD_billKind 68 = .ok (.aload_n 0, 1) := by decide +kernel
theorem d_MD_billKind_69 : decode b_MD_billKind 69 = .ok (.getfield 13, 3) := by decide +kernel
theorem d_MD_billKind_72 : decode b_MD_billKind 72 = .ok (.iconst 4, 1) := by decide +kernel
theorem d_MD_billKind_73 : decode b_MD_billKind 73 = .ok (.iload_n 2, 1) := by decide +kernel
theorem d_MD_billKind_74 : decode b_MD_billKind 74 = .ok (.imul, 1) := by decide +kernel
theorem d_MD_billKind_75 : decode b_MD_billKind 75 = .ok (.iaload, 1) := by decide +kernel
theorem d_MD_billKind_76 : decode b_MD_billKind 76 = .ok (.goto 5, 3) := by decide +kernel
theorem d_MD_billKind_79 : decode b_MD_billKind 79 = .ok (.bipush 7, 2) := by decide +kernel
theorem d_MD_billKind_81 : decode b_MD_billKind 81 = .ok (.i2l, 1) := by decide +kernel
theorem d_MD_billKind_82 : decode b_MD_billKind 82 = .ok (.iload 6, 2) := by decide +kernel
theorem d_MD_billKind_84 : decode b_MD_billKind 84 = .ok (.i2l, 1) := by decide +kernel
theorem d_MD_billKind_85 : decode b_MD_billKind 85 = .ok (.lmul, 1) := by decide +kernel
theorem d_MD_billKind_86 : decode b_MD_billKind 86 = .ok (.lstore 7, 2) := by decide +kernel
theorem d_MD_billKind_88 : decode b_MD_billKind 88 = .ok (.iload_n 3, 1) := by decide +kernel
theorem d_MD_billKind_89 : decode b_MD_billKind 89 = .ok (.ifCond .eq 17, 3) := by decide +kernel
theorem d_MD_billKind_92 : decode b_MD_billKind 92 = .ok (.aload_n 0, 1) := by decide +kernel
theorem d_MD_billKind_93 : decode b_MD_billKind 93 = .ok (.getfield 13, 3) := by decide +kernel
theorem d_MD_billKind_96 : decode b_MD_billKind 96 = .ok (.iconst 4, 1) := by decide +kernel
theorem d_MD_billKind_97 : decode b_MD_billKind 97 = .ok (.iload_n 2, 1) := by decide +kernel
theorem d_MD_billKind_98 : decode b_MD_billKind 98 = .ok (.imul, 1) := by decide +kernel
theorem d_MD_billKind_99 : decode b_MD_billKind 99 = .ok (.iconst 1, 1) := by decide +kernel
theorem d_MD_billKind_100 : decode b_MD_billKind 100 = .ok (.iadd, 1) := by decide +kernel
theorem d_MD_billKind_101 : decode b_MD_billKind 101 = .ok (.iaload, 1) := by decide +kernel
theorem d_MD_billKind_102 : decode b_MD_billKind 102 = .ok (.i2l, 1) := by decide +kernel
theorem d_MD_billKind_103 : decode b_MD_billKind 103 = .ok (.goto 4, 3) := by decide +kernel
theorem d_MD_billKind_106 : decode b_MD_billKind 106 = .ok (.lconst 1, 1) := by decide +kernel
theorem d_MD_billKind_107 : decode b_MD_billKind 107 = .ok (.lstore 9, 2) := by decide +kernel
theorem d_MD_billKind_109 : decode b_MD_billKind 109 = .ok (.bipush 6, 2) := by decide +kernel
theorem d_MD_billKind_111 : decode b_MD_billKind 111 = .ok (.iload_n 1, 1) := by decide +kernel
theorem d_MD_billKind_112 : decode b_MD_billKind 112 = .ok (.imul, 1) := by decide +kernel
theorem d_MD_billKind_113 : decode b_MD_billKind 113 = .ok (.iload_n 2, 1) := by decide +kernel
theorem d_MD_billKind_114 : decode b_MD_billKind 114 = .ok (.iadd, 1) := by decide +kernel
theorem d_MD_billKind_115 : decode b_MD_billKind 115 = .ok (.istore 11, 2) := by decide +kernel
theorem d_MD_billKind_117 : decode b_MD_billKind 117 = .ok (.iconst 3, 1) := by decide +kernel
theorem d_MD_billKind_118 : decode b_MD_billKind 118 = .ok (.iload 11, 2) := by decide +kernel
theorem d_MD_billKind_120 : decode b_MD_billKind 120 = .ok (.imul, 1) := by decide +kernel
theorem d_MD_billKind_121 : decode b_MD_billKind 121 = .ok (.istore 12, 2) := by decide +kernel
theorem d_MD_billKind_123 : decode b_MD_billKind 123 = .ok (.iload 12, 2) := by decide +kernel
theorem d_MD_billKind_125 : decode b_MD_billKind 125 = .ok (.iconst 3, 1) := by decide +kernel
theorem d_MD_billKind_126 : decode b_MD_billKind 126 = .ok (.iload 11, 2) := by decide +kernel
theorem d_MD_billKind_128 : decode b_MD_billKind 128 = .ok (.imul, 1) := by decide +kernel
theorem d_MD_billKind_129 : decode b_MD_billKind 129 = .ok (.aload_n 0, 1) := by decide +kernel
theorem d_MD_billKind_130 : decode b_MD_billKind 130 = .ok (.getfield 25, 3) := by decide +kernel
theorem d_MD_billKind_133 : decode b_MD_billKind 133 = .ok (.iload 11, 2) := by decide +kernel
theorem d_MD_billKind_135 : decode b_MD_billKind 135 = .ok (.iaload, 1) := by decide +kernel
theorem d_MD_billKind_136 : decode b_MD_billKind 136 = .ok (.iadd, 1) := by decide +kernel
theorem d_MD_billKind_137 : decode b_MD_billKind 137 = .ok (.if_icmp .ge 43, 3) := by decide +kernel
theorem d_MD_billKind_140 : decode b_MD_billKind 140 = .ok (.lload 7, 2) := by decide +kernel
theorem d_MD_billKind_142 : decode b_MD_billKind 142 = .ok (.aload_n 0, 1) := by decide +kernel
theorem d_MD_billKind_143 : decode b_MD_billKind 143 = .ok (.getfield 31, 3) := by decide +kernel
theorem d_MD_billKind_146 : decode b_MD_billKind 146 = .ok (.iload 12, 2) := by decide +kernel
theorem d_MD_billKind_148 : decode b_MD_billKind 148 = .ok (.iaload, 1) := by decide +kernel
theorem d_MD_billKind_149 : decode b_MD_billKind 149 = .ok (.aload_n 0, 1) := by decide +kernel
theorem d_MD_billKind_150 : decode b_MD_billKind 150 = .ok (.getfield 28, 3) := by decide +kernel
theorem d_MD_billKind_153 : decode b_MD_billKind 153 = .ok (.iload 12, 2) := by decide +kernel
theorem d_MD_billKind_155 : decode b_MD_billKind 155 = .ok (.iaload, 1) := by decide +kernel
theorem d_MD_billKind_156 : decode b_MD_billKind 156 = .ok (.isub, 1) := by decide +kernel
theorem d_MD_billKind_157 : decode b_MD_billKind 157 = .ok (.i2l, 1) := by decide +kernel
theorem d_MD_billKind_158 : decode b_MD_billKind 158 = .ok (.lmul, 1) := by decide +kernel
theorem d_MD_billKind_159 : decode b_MD_billKind 159 = .ok (.lstore 7, 2) := by decide +kernel
theorem d_MD_billKind_161 : decode b_MD_billKind 161 = .ok (.lload 9, 2) := by decide +kernel
theorem d_MD_billKind_163 : decode b_MD_billKind 163 = .ok (.aload_n 0, 1) := by decide +kernel
theorem d_MD_billKind_164 : decode b_MD_billKind 164 = .ok (.getfield 31, 3) := by decide +kernel
theorem d_MD_billKind_167 : decode b_MD_billKind 167 = .ok (.iload 12, 2) := by decide +kernel
theorem d_MD_billKind_169 : decode b_MD_billKind 169 = .ok (.iaload, 1) := by decide +kernel
theorem d_MD_billKind_170 : decode b_MD_billKind 170 = .ok (.i2l, 1) := by decide +kernel
theorem d_MD_billKind_171 : decode b_MD_billKind 171 = .ok (.lmul, 1) := by decide +kernel
theorem d_MD_billKind_172 : decode b_MD_billKind 172 = .ok (.lstore 9, 2) := by decide +kernel
theorem d_MD_billKind_174 : decode b_MD_billKind 174 = .ok (.iinc 12 1, 3) := by decide +kernel
theorem d_MD_billKind_177 : decode b_MD_billKind 177 = .ok (.goto (-54), 3) := by decide +kernel
theorem d_MD_billKind_180 : decode b_MD_billKind 180 = .ok (.lload 7, 2) := by decide +kernel
theorem d_MD_billKind_182 : decode b_MD_billKind 182 = .ok (.lload 9, 2) := by decide +kernel
theorem d_MD_billKind_184 : decode b_MD_billKind 184 = .ok (.ldiv, 1) := by decide +kernel
theorem d_MD_billKind_185 : decode b_MD_billKind 185 = .ok (.ldc2_w 125, 3) := by decide +kernel
theorem d_MD_billKind_188 : decode b_MD_billKind 188 = .ok (.lload 7, 2) := by decide +kernel
theorem d_MD_billKind_190 : decode b_MD_billKind 190 = .ok (.lload 9, 2) := by decide +kernel
theorem d_MD_billKind_192 : decode b_MD_billKind 192 = .ok (.lrem, 1) := by decide +kernel
theorem d_MD_billKind_193 : decode b_MD_billKind 193 = .ok (.lmul, 1) := by decide +kernel
theorem d_MD_billKind_194 : decode b_MD_billKind 194 = .ok (.lload 9, 2) := by decide +kernel
theorem d_MD_billKind_196 : decode b_MD_billKind 196 = .ok (.lcmp, 1) := by decide +kernel
theorem d_MD_billKind_197 : decode b_MD_billKind 197 = .ok (.ifCond .lt 7, 3) := by decide +kernel
theorem d_MD_billKind_200 : decode b_MD_billKind 200 = .ok (.lconst 1, 1) := by decide +kernel
theorem d_MD_billKind_201 : decode b_MD_billKind 201 = .ok (.goto 4, 3) := by decide +kernel
theorem d_MD_billKind_204 : decode b_MD_billKind 204 = .ok (.lconst 0, 1) := by decide +kernel
theorem d_MD_billKind_205 : decode b_MD_billKind 205 = .ok (.ladd, 1) := by decide +kernel
theorem d_MD_billKind_206 : decode b_MD_billKind 206 = .ok (.lstore 12, 2) := by decide +kernel
theorem d_MD_billKind_208 : decode b_MD_billKind 208 = .ok (.iload_n 3, 1) := by decide +kernel
theorem d_MD_billKind_209 : decode b_MD_billKind 209 = .ok (.ifCond .eq 22, 3) := by decide +kernel
theorem d_MD_billKind_212 : decode b_MD_billKind 212 = .ok (.iload 6, 2) := by decide +kernel
theorem d_MD_billKind_214 : decode b_MD_billKind 214 = .ok (.ifCond .le 17, 3) := by decide +kernel
theorem d_MD_billKind_217 : decode b_MD_billKind 217 = .ok (.aload_n 0, 1) := by decide +kernel
theorem d_MD_billKind_218 : decode b_MD_billKind 218 = .ok (.getfield 13, 3) := by decide +kernel
theorem d_MD_billKind_221 : decode b_MD_billKind 221 = .ok (.iconst 4, 1) := by decide +kernel
theorem d_MD_billKind_222 : decode b_MD_billKind 222 = .ok (.iload_n 2, 1) := by decide +kernel
theorem d_MD_billKind_223 : decode b_MD_billKind 223 = .ok (.imul, 1) := by decide +kernel
theorem d_MD_billKind_224 : decode b_MD_billKind 224 = .ok (.iconst 3, 1) := by decide +kernel
theorem d_MD_billKind_225 : decode b_MD_billKind 225 = .ok (.iadd, 1) := by decide +kernel
theorem d_MD_billKind_226 : decode b_MD_billKind 226 = .ok (.iaload, 1) := by decide +kernel
theorem d_MD_billKind_227 : decode b_MD_billKind 227 = .ok (.i2l, 1) := by decide +kernel
theorem d_MD_billKind_228 : decode b_MD_billKind 228 = .ok (.goto 4, 3) := by decide +kernel
theorem d_MD_billKind_231 : decode b_MD_billKind 231 = .ok (.lconst 0, 1) := by decide +kernel
theorem d_MD_billKind_232 : decode b_MD_billKind 232 = .ok (.lstore 14, 2) := by decide +kernel
theorem d_MD_billKind_234 : decode b_MD_billKind 234 = .ok (.aload_n 0, 1) := by decide +kernel
theorem d_MD_billKind_235 : decode b_MD_billKind 235 = .ok (.getfield 57, 3) := by decide +kernel
theorem d_MD_billKind_238 : decode b_MD_billKind 238 = .ok (.aload_n 0, 1) := by decide +kernel
theorem d_MD_billKind_239 : decode b_MD_billKind 239 = .ok (.getfield 118, 3) := by decide +kernel
theorem d_MD_billKind_242 : decode b_MD_billKind 242 = .ok (.iload_n 3, 1) := by decide +kernel
theorem d_MD_billKind_243 : decode b_MD_billKind 243 = .ok (.ifCond .ne 7, 3) := by decide +kernel
theorem d_MD_billKind_246 : decode b_MD_billKind 246 = .ok (.iconst 1, 1) := by decide +kernel
theorem d_MD_billKind_247 : decode b_MD_billKind 247 = .ok (.goto 4, 3) := by decide +kernel
theorem d_MD_billKind_250 : decode b_MD_billKind 250 = .ok (.iconst 0, 1) := by decide +kernel
theorem d_MD_billKind_251 : decode b_MD_billKind 251 = .ok (.bastore, 1) := by decide +kernel
theorem d_MD_billKind_252 : decode b_MD_billKind 252 = .ok (.aload_n 0, 1) := by decide +kernel
theorem d_MD_billKind_253 : decode b_MD_billKind 253 = .ok (.iload_n 1, 1) := by decide +kernel
theorem d_MD_billKind_254 : decode b_MD_billKind 254 = .ok (.iload_n 2, 1) := by decide +kernel
theorem d_MD_billKind_255 : decode b_MD_billKind 255 = .ok (.iload 4, 2) := by decide +kernel
theorem d_MD_billKind_257 : decode b_MD_billKind 257 = .ok (.iload 6, 2) := by decide +kernel
theorem d_MD_billKind_259 : decode b_MD_billKind 259 = .ok (.lload 12, 2) := by decide +kernel
theorem d_MD_billKind_261 : decode b_MD_billKind 261 = .ok (.lload 14, 2) := by decide +kernel
theorem d_MD_billKind_263 : decode b_MD_billKind 263 = .ok (.lcmp, 1) := by decide +kernel
theorem d_MD_billKind_264 : decode b_MD_billKind 264 = .ok (.ifCond .ge 8, 3) := by decide +kernel
theorem d_MD_billKind_267 : decode b_MD_billKind 267 = .ok (.lload 14, 2) := by decide +kernel
theorem d_MD_billKind_269 : decode b_MD_billKind 269 = .ok (.goto 5, 3) := by decide +kernel
theorem d_MD_billKind_272 : decode b_MD_billKind 272 = .ok (.lload 12, 2) := by decide +kernel
theorem d_MD_billKind_274 : decode b_MD_billKind 274 = .ok (.iconst (-1), 1) := by decide +kernel
theorem d_MD_billKind_275 : decode b_MD_billKind 275 = .ok (.invokevirtual 127, 3) := by decide +kernel
theorem d_MD_billKind_278 : decode b_MD_billKind 278 = .ok (.return_, 1) := by decide +kernel
theorem d_MD_takeEvents_0 : decode b_MD_takeEvents 0 = .ok (.iconst 0, 1) := by decide +kernel
theorem d_MD_takeEvents_1 : decode b_MD_takeEvents 1 = .ok (.istore_n 2, 1) := by decide +kernel
theorem d_MD_takeEvents_2 : decode b_MD_takeEvents 2 = .ok (.iconst 0, 1) := by decide +kernel
theorem d_MD_takeEvents_3 : decode b_MD_takeEvents 3 = .ok (.istore_n 3, 1) := by decide +kernel
theorem d_MD_takeEvents_4 : decode b_MD_takeEvents 4 = .ok (.iload_n 3, 1) := by decide +kernel
theorem d_MD_takeEvents_5 : decode b_MD_takeEvents 5 = .ok (.aload_n 0, 1) := by decide +kernel
theorem d_MD_takeEvents_6 : decode b_MD_takeEvents 6 = .ok (.getfield 110, 3) := by decide +kernel
theorem d_MD_takeEvents_9 : decode b_MD_takeEvents 9 = .ok (.if_icmp .ge 58, 3) := by decide +kernel
theorem d_MD_takeEvents_12 : decode b_MD_takeEvents 12 = .ok (.aload_n 0, 1) := by decide +kernel
theorem d_MD_takeEvents_13 : decode b_MD_takeEvents 13 = .ok (.getfield 16, 3) := by decide +kernel
theorem d_MD_takeEvents_16 : decode b_MD_takeEvents 16 = .ok (.iload_n 3, 1) := by decide +kernel
theorem d_MD_takeEvents_17 : decode b_MD_takeEvents 17 = .ok (.iaload, 1) := by decide +kernel
theorem d_MD_takeEvents_18 : decode b_MD_takeEvents 18 = .ok (.iload_n 1, 1) := by decide +kernel
theorem d_MD_takeEvents_19 : decode b_MD_takeEvents 19 = .ok (.if_icmp .eq 42, 3) := by decide +kernel
theorem d_MD_takeEvents_22 : decode b_MD_takeEvents 22 = .ok (.aload_n 0, 1) := by decide +kernel
theorem d_MD_takeEvents_23 : decode b_MD_takeEvents 23 = .ok (.getfield 16, 3) := by decide +kernel
theorem d_MD_takeEvents_26 : decode b_MD_takeEvents 26 = .ok (.iload_n 2, 1) := by decide +kernel
theorem d_MD_takeEvents_27 : decode b_MD_takeEvents 27 = .ok (.aload_n 0, 1) := by decide +kernel
theorem d_MD_takeEvents_28 : decode b_MD_takeEvents 28 = .ok (.getfield 16, 3) := by decide +kernel
theorem d_MD_takeEvents_31 : decode b_MD_takeEvents 31 = .ok (.iload_n 3, 1) := by decide +kernel
theorem d_MD_takeEvents_32 : decode b_MD_takeEvents 32 = .ok (.iaload, 1) := by decide +kernel
theorem d_MD_takeEvents_33 : decode b_MD_takeEvents 33 = .ok (.iastore, 1) := by decide +kernel
theorem d_MD_takeEvents_34 : decode b_MD_takeEvents 34 = .ok (.aload_n 0, 1) := by decide +kernel
theorem d_MD_takeEvents_35 : decode b_MD_takeEvents 35 = .ok (.getfield 19, 3) := by decide +kernel
theorem d_MD_takeEvents_38 : decode b_MD_takeEvents 38 = .ok (.iload_n 2, 1) := by decide +kernel
theorem d_MD_takeEvents_39 : decode b_MD_takeEvents 39 = .ok (.aload_n 0, 1) := by decide +kernel
theorem d_MD_takeEvents_40 : decode b_MD_takeEvents 40 = .ok (.getfield 19, 3) := by decide +kernel
theorem d_MD_takeEvents_43 : decode b_MD_takeEvents 43 = .ok (.iload_n 3, 1) := by decide +kernel
theorem d_MD_takeEvents_44 : decode b_MD_takeEvents 44 = .ok (.iaload, 1) := by decide +kernel
theorem d_MD_takeEvents_45 : decode b_MD_takeEvents 45 = .ok (.iastore, 1) := by decide +kernel
theorem d_MD_takeEvents_46 : decode b_MD_takeEvents 46 = .ok (.aload_n 0, 1) := by decide +kernel
theorem d_MD_takeEvents_47 : decode b_MD_takeEvents 47 = .ok (.getfield 22, 3) := by decide +kernel
theorem d_MD_takeEvents_50 : decode b_MD_takeEvents 50 = .ok (.iload_n 2, 1) := by decide +kernel
theorem d_MD_takeEvents_51 : decode b_MD_takeEvents 51 = .ok (.aload_n 0, 1) := by decide +kernel
theorem d_MD_takeEvents_52 : decode b_MD_takeEvents 52 = .ok (.getfield 22, 3) := by decide +kernel
theorem d_MD_takeEvents_55 : decode b_MD_takeEvents 55 = .ok (.iload_n 3, 1) := by decide +kernel
theorem d_MD_takeEvents_56 : decode b_MD_takeEvents 56 = .ok (.iaload, 1) := by decide +kernel
theorem d_MD_takeEvents_57 : decode b_MD_takeEvents 57 = .ok (.iastore, 1) := by decide +kernel
theorem d_MD_takeEvents_58 : decode b_MD_takeEvents 58 = .ok (.iinc 2 1, 3) := by decide +kernel
theorem d_MD_takeEvents_61 : decode b_MD_takeEvents 61 = .ok (.iinc 3 1, 3) := by decide +kernel
theorem d_MD_takeEvents_64 : decode b_MD_takeEvents 64 = .ok (.goto (-60), 3) := by decide +kernel
theorem d_MD_takeEvents_67 : decode b_MD_takeEvents 67 = .ok (.aload_n 0, 1) := by decide +kernel
theorem d_MD_takeEvents_68 : decode b_MD_takeEvents 68 = .ok (.iload_n 2, 1) := by decide +kernel
theorem d_MD_takeEvents_69 : decode b_MD_takeEvents 69 = .ok (.putfield 110, 3) := by decide +kernel
theorem d_MD_takeEvents_72 : decode b_MD_takeEvents 72 = .ok (.return_, 1) := by decide +kernel
theorem d_MD_bill_0 : decode b_MD_bill 0 = .ok (.iload_n 1, 1) := by decide +kernel
theorem d_MD_bill_1 : decode b_MD_bill 1 = .ok (.invokestatic 105, 3) := by decide +kernel
theorem d_MD_bill_4 : decode b_MD_bill 4 = .ok (.ifCond .ne 9, 3) := by decide +kernel
theorem d_MD_bill_7 : decode b_MD_bill 7 = .ok (.aload_n 0, 1) := by decide +kernel
theorem d_MD_bill_8 : decode b_MD_bill 8 = .ok (.iconst 1, 1) := by decide +kernel
theorem d_MD_bill_9 : decode b_MD_bill 9 = .ok (.invokevirtual 102, 3) := by decide +kernel
theorem d_MD_bill_12 : decode b_MD_bill 12 = .ok (.ireturn, 1) := by decide +kernel
theorem d_MD_bill_13 : decode b_MD_bill 13 = .ok (.iconst 0, 1) := by decide +kernel
theorem d_MD_bill_14 : decode b_MD_bill 14 = .ok (.istore_n 2, 1) := by decide +kernel
theorem d_MD_bill_15 : decode b_MD_bill 15 = .ok (.iconst 0, 1) := by decide +kernel
theorem d_MD_bill_16 : decode b_MD_bill 16 = .ok (.istore_n 3, 1) := by decide +kernel
theorem d_MD_bill_17 : decode b_MD_bill 17 = .ok (.iload_n 3, 1) := by decide +kernel
theorem d_MD_bill_18 : decode b_MD_bill 18 = .ok (.bipush 6, 2) := by decide +kernel
theorem d_MD_bill_20 : decode b_MD_bill 20 = .ok (.if_icmp .ge 26, 3) := by decide +kernel
theorem d_MD_bill_23 : decode b_MD_bill 23 = .ok (.iload_n 2, 1) := by decide +kernel
theorem d_MD_bill_24 : decode b_MD_bill 24 = .ok (.aload_n 0, 1) := by decide +kernel
theorem d_MD_bill_25 : decode b_MD_bill 25 = .ok (.iload_n 1, 1) := by decide +kernel
theorem d_MD_bill_26 : decode b_MD_bill 26 = .ok (.iload_n 3, 1) := by decide +kernel
theorem d_MD_bill_27 : decode b_MD_bill 27 = .ok (.invokevirtual 121, 3) := by decide +kernel
theorem d_MD_bill_30 : decode b_MD_bill 30 = .ok (.ifCond .le 7, 3) := by decide +kernel
theorem d_MD_bill_33 : decode b_MD_bill 33 = .ok (.iconst 1, 1) := by decide +kernel
theorem d_MD_bill_34 : decode b_MD_bill 34 = .ok (.goto 4, 3) := by decide +kernel
theorem d_MD_bill_37 : decode b_MD_bill 37 = .ok (.iconst 0, 1) := by decide +kernel
theorem d_MD_bill_38 : decode b_MD_bill 38 = .ok (.iadd, 1) := by decide +kernel
theorem d_MD_bill_39 : decode b_MD_bill 39 = .ok (.istore_n 2, 1) := by decide +kernel
theorem d_MD_bill_40 : decode b_MD_bill 40 = .ok (.iinc 3 1, 3) := by decide +kernel
theorem d_MD_bill_43 : decode b_MD_bill 43 = .ok (.goto (-26), 3) := by decide +kernel
theorem d_MD_bill_46 : decode b_MD_bill 46 = .ok (.aload_n 0, 1) := by decide +kernel
theorem d_MD_bill_47 : decode b_MD_bill 47 = .ok (.getfield 118, 3) := by decide +kernel
theorem d_MD_bill_50 : decode b_MD_bill 50 = .ok (.iload_n 2, 1) := by decide +kernel
theorem d_MD_bill_51 : decode b_MD_bill 51 = .ok (.iadd, 1) := by decide +kernel
theorem d_MD_bill_52 : decode b_MD_bill 52 = .ok (.sipush 200, 3) := by decide +kernel
theorem d_MD_bill_55 : decode b_MD_bill 55 = .ok (.if_icmp .le 9, 3) := by decide +kernel
theorem d_MD_bill_58 : decode b_MD_bill 58 = .ok (.aload_n 0, 1) := by decide +kernel
theorem d_MD_bill_59 : decode b_MD_bill 59 = .ok (.iconst 2, 1) := by decide +kernel
theorem d_MD_bill_60 : decode b_MD_bill 60 = .ok (.invokevirtual 102, 3) := by decide +kernel
theorem d_MD_bill_63 : decode b_MD_bill 63 = .ok (.ireturn, 1) := by decide +kernel
theorem d_MD_bill_64 : decode b_MD_bill 64 = .ok (.aload_n 0, 1) := by decide +kernel
theorem d_MD_bill_65 : decode b_MD_bill 65 = .ok (.iconst 0, 1) := by decide +kernel
theorem d_MD_bill_66 : decode b_MD_bill 66 = .ok (.putfield 63, 3) := by decide +kernel
theorem d_MD_bill_69 : decode b_MD_bill 69 = .ok (.iconst 0, 1) := by decide +kernel
theorem d_MD_bill_70 : decode b_MD_bill 70 = .ok (.istore_n 3, 1) := by decide +kernel
theorem d_MD_bill_71 : decode b_MD_bill 71 = .ok (.iload_n 3, 1) := by decide +kernel
theorem d_MD_bill_72 : decode b_MD_bill 72 = .ok (.bipush 6, 2) := by decide +kernel
theorem d_MD_bill_74 : decode b_MD_bill 74 = .ok (.if_icmp .ge 24, 3) := by decide +kernel
theorem d_MD_bill_77 : decode b_MD_bill 77 = .ok (.aload_n 0, 1) := by decide +kernel
theorem d_MD_bill_78 : decode b_MD_bill 78 = .ok (.iload_n 1, 1) := by decide +kernel
theorem d_MD_bill_79 : decode b_MD_bill 79 = .ok (.iload_n 3, 1) := by decide +kernel
theorem d_MD_bill_80 : decode b_MD_bill 80 = .ok (.invokevirtual 121, 3) := by decide +kernel
theorem d_MD_bill_83 : decode b_MD_bill 83 = .ok (.ifCond .le 9, 3) := by decide +kernel
theorem d_MD_bill_86 : decode b_MD_bill 86 = .ok (.aload_n 0, 1) := by decide +kernel
theorem d_MD_bill_87 : decode b_MD_bill 87 = .ok (.iload_n 1, 1) := by decide +kernel
theorem d_MD_bill_88 : decode b_MD_bill 88 = .ok (.iload_n 3, 1) := by decide +kernel
theorem d_MD_bill_89 : decode b_MD_bill 89 = .ok (.invokevirtual 131, 3) := by decide +kernel
theorem d_MD_bill_92 : decode b_MD_bill 92 = .ok (.iinc 3 1, 3) := by decide +kernel
theorem d_MD_bill_95 : decode b_MD_bill 95 = .ok (.goto (-24), 3) := by decide +kernel
theorem d_MD_bill_98 : decode b_MD_bill 98 = .ok (.aload_n 0, 1) := by decide +kernel
theorem d_MD_bill_99 : decode b_MD_bill 99 = .ok (.iload_n 1, 1) := by decide +kernel
theorem d_MD_bill_100 : decode b_MD_bill 100 = .ok (.invokevirtual 135, 3) := by decide +kernel
theorem d_MD_bill_103 : decode b_MD_bill 103 = .ok (.iload_n 2, 1) := by decide +kernel
theorem d_MD_bill_104 : decode b_MD_bill 104 = .ok (.ireturn, 1) := by decide +kernel
theorem d_MD_isLine_0 : decode b_MD_isLine 0 = .ok (.iload_n 1, 1) := by decide +kernel
theorem d_MD_isLine_1 : decode b_MD_isLine 1 = .ok (.ifCond .lt 15, 3) := by decide +kernel
theorem d_MD_isLine_4 : decode b_MD_isLine 4 = .ok (.iload_n 1, 1) := by decide +kernel
theorem d_MD_isLine_5 : decode b_MD_isLine 5 = .ok (.aload_n 0, 1) := by decide +kernel
theorem d_MD_isLine_6 : decode b_MD_isLine 6 = .ok (.getfield 118, 3) := by decide +kernel
theorem d_MD_isLine_9 : decode b_MD_isLine 9 = .ok (.if_icmp .ge 7, 3) := by decide +kernel
theorem d_MD_isLine_12 : decode b_MD_isLine 12 = .ok (.iconst 1, 1) := by decide +kernel
theorem d_MD_isLine_13 : decode b_MD_isLine 13 = .ok (.goto 4, 3) := by decide +kernel
theorem d_MD_isLine_16 : decode b_MD_isLine 16 = .ok (.iconst 0, 1) := by decide +kernel
theorem d_MD_isLine_17 : decode b_MD_isLine 17 = .ok (.ireturn, 1) := by decide +kernel
theorem d_MD_whole_0 : decode b_MD_whole 0 = .ok (.aload_n 0, 1) := by decide +kernel
theorem d_MD_whole_1 : decode b_MD_whole 1 = .ok (.getfield 46, 3) := by decide +kernel
theorem d_MD_whole_4 : decode b_MD_whole 4 = .ok (.iload_n 1, 1) := by decide +kernel
theorem d_MD_whole_5 : decode b_MD_whole 5 = .ok (.laload, 1) := by decide +kernel
theorem d_MD_whole_6 : decode b_MD_whole 6 = .ok (.lstore_n 2, 1) := by decide +kernel
theorem d_MD_whole_7 : decode b_MD_whole 7 = .ok (.iconst 0, 1) := by decide +kernel
theorem d_MD_whole_8 : decode b_MD_whole 8 = .ok (.istore 4, 2) := by decide +kernel
theorem d_MD_whole_10 : decode b_MD_whole 10 = .ok (.iload 4, 2) := by decide +kernel
theorem d_MD_whole_12 : decode b_MD_whole 12 = .ok (.aload_n 0, 1) := by decide +kernel
theorem d_MD_whole_13 : decode b_MD_whole 13 = .ok (.getfield 118, 3) := by decide +kernel
theorem d_MD_whole_16 : decode b_MD_whole 16 = .ok (.if_icmp .ge 34, 3) := by decide +kernel
theorem d_MD_whole_19 : decode b_MD_whole 19 = .ok (.lload_n 2, 1) := by decide +kernel
theorem d_MD_whole_20 : decode b_MD_whole 20 = .ok (.aload_n 0, 1) := by decide +kernel
theorem d_MD_whole_21 : decode b_MD_whole 21 = .ok (.getfield 50, 3) := by decide +kernel
theorem d_MD_whole_24 : decode b_MD_whole 24 = .ok (.iload 4, 2) := by decide +kernel
theorem d_MD_whole_26 : decode b_MD_whole 26 = .ok (.iaload, 1) := by decide +kernel
theorem d_MD_whole_27 : decode b_MD_whole 27 = .ok (.iload_n 1, 1) := by decide +kernel
theorem d_MD_whole_28 : decode b_MD_whole 28 = .ok (.if_icmp .ne 13, 3) := by decide +kernel
theorem d_MD_whole_31 : decode b_MD_whole 31 = .ok (.aload_n 0, 1) := by decide +kernel
theorem d_MD_whole_32 : decode b_MD_whole 32 = .ok (.getfield 46, 3) := by decide +kernel
theorem d_MD_whole_35 : decode b_MD_whole 35 = .ok (.iload 4, 2) := by decide +kernel
theorem d_MD_whole_37 : decode b_MD_whole 37 = .ok (.laload, 1) := by decide +kernel
theorem d_MD_whole_38 : decode b_MD_whole 38 = .ok (.goto 4, 3) := by decide +kernel
theorem d_MD_whole_41 : decode b_MD_whole 41 = .ok (.lconst 0, 1) := by decide +kernel
theorem d_MD_whole_42 : decode b_MD_whole 42 = .ok (.ladd, 1) := by decide +kernel
theorem d_MD_whole_43 : decode b_MD_whole 43 = .ok (.lstore_n 2, 1) := by decide +kernel
theorem d_MD_whole_44 : decode b_MD_whole 44 = .ok (.iinc 4 1, 3) := by decide +kernel
theorem d_MD_whole_47 : decode b_MD_whole 47 = .ok (.goto (-37), 3) := by decide +kernel
theorem d_MD_whole_50 : decode b_MD_whole 50 = .ok (.lload_n 2, 1) := by decide +kernel
theorem d_MD_whole_51 : decode b_MD_whole 51 = .ok (.lreturn, 1) := by decide +kernel
theorem d_MD_correct_0 : decode b_MD_correct 0 = .ok (.aload_n 0, 1) := by decide +kernel
theorem d_MD_correct_1 : decode b_MD_correct 1 = .ok (.iload_n 1, 1) := by decide +kernel
theorem d_MD_correct_2 : decode b_MD_correct 2 = .ok (.invokevirtual 139, 3) := by decide +kernel
theorem d_MD_correct_5 : decode b_MD_correct 5 = .ok (.ifCond .eq 14, 3) := by decide +kernel
theorem d_MD_correct_8 : decode b_MD_correct 8 = .ok (.lload_n 2, 1) := by decide +kernel
theorem d_MD_correct_9 : decode b_MD_correct 9 = .ok (.lconst 0, 1) := by decide +kernel
theorem d_MD_correct_10 : decode b_MD_correct 10 = .ok (.ldc2_w 142, 3) := by decide +kernel
theorem d_MD_correct_13 : decode b_MD_correct 13 = .ok (.invokestatic 71, 3) := by decide +kernel
theorem d_MD_correct_16 : decode b_MD_correct 16 = .ok (.ifCond .ne 9, 3) := by decide +kernel
theorem d_MD_correct_19 : decode b_MD_correct 19 = .ok (.aload_n 0, 1) := by decide +kernel
theorem d_MD_correct_20 : decode b_MD_correct 20 = .ok (.iconst 1, 1) := by decide +kernel
theorem d_MD_correct_21 : decode b_MD_correct 21 = .ok (.invokevirtual 102, 3) := by decide +kernel
theorem d_MD_correct_24 : decode b_MD_correct 24 = .ok (.ireturn, 1) := by decide +kernel
theorem d_MD_correct_25 : decode b_MD_correct 25 = .ok (.aload_n 0, 1) := by decide +kernel
theorem d_MD_correct_26 : decode b_MD_correct 26 = .ok (.getfield 118, 3) := by decide +kernel
theorem d_MD_correct_29 : decode b_MD_correct 29 = .ok (.sipush 200, 3) := by decide +kernel
theorem d_MD_correct_32 : decode b_MD_correct 32 = .ok (.if_icmp .ne 9, 3) := by decide +kernel
theorem d_MD_correct_35 : decode b_MD_correct 35 = .ok (.aload_n 0, 1) := by decide +kernel
theorem d_MD_correct_36 : decode b_MD_correct 36 = .ok (.iconst 2, 1) := by decide +kernel
theorem d_MD_correct_37 : decode b_MD_correct 37 = .ok (.invokevirtual 102, 3) := by decide +kernel
theorem d_MD_correct_40 : decode b_MD_correct 40 = .ok (.ireturn, 1) := by decide +kernel
theorem d_MD_correct_41 : decode b_MD_correct 41 = .ok (.aload_n 0, 1) := by decide +kernel
theorem d_MD_correct_42 : decode b_MD_correct 42 = .ok (.iconst 0, 1) := by decide +kernel
theorem d_MD_correct_43 : decode b_MD_correct 43 = .ok (.putfield 63, 3) := by decide +kernel
theorem d_MD_correct_46 : decode b_MD_correct 46 = .ok (.aload_n 0, 1) := by decide +kernel
theorem d_MD_correct_47 : decode b_MD_correct 47 = .ok (.getfield 50, 3) := by decide +kernel
theorem d_MD_correct_50 : decode b_MD_correct 50 = .ok (.iload_n 1, 1) := by decide +kernel
theorem d_MD_correct_51 : decode b_MD_correct 51 = .ok (.iaload, 1) := by decide +kernel
theorem d_MD_correct_52 : decode b_MD_correct 52 = .ok (.iconst (-1), 1) := by decide +kernel
theorem d_MD_correct_53 : decode b_MD_correct 53 = .ok (.if_icmp .ne 13, 3) := by decide +kernel
theorem d_MD_correct_56 : decode b_MD_correct 56 = .ok (.aload_n 0, 1) := by decide +kernel
theorem d_MD_correct_57 : decode b_MD_correct 57 = .ok (.iload_n 1, 1) := by decide +kernel
theorem d_MD_correct_58 : decode b_MD_correct 58 = .ok (.invokevirtual 144, 3) := by decide +kernel
theorem d_MD_correct_61 : decode b_MD_correct 61 = .ok (.lload_n 2, 1) := by decide +kernel
theorem d_MD_correct_62 : decode b_MD_correct 62 = .ok (.lcmp, 1) := by decide +kernel
theorem d_MD_correct_63 : decode b_MD_correct 63 = .ok (.ifCond .ne 5, 3) := by decide +kernel
theorem d_MD_correct_66 : decode b_MD_correct 66 = .ok (.iconst (-1), 1) := by decide +kernel
theorem d_MD_correct_67 : decode b_MD_correct 67 = .ok (.ireturn, 1) := by decide +kernel
theorem d_MD_correct_68 : decode b_MD_correct 68 = .ok (.aload_n 0, 1) := by decide +kernel
theorem d_MD_correct_69 : decode b_MD_correct 69 = .ok (.getfield 57, 3) := by decide +kernel
theorem d_MD_correct_72 : decode b_MD_correct 72 = .ok (.aload_n 0, 1) := by decide +kernel
theorem d_MD_correct_73 : decode b_MD_correct 73 = .ok (.getfield 118, 3) := by decide +kernel
theorem d_MD_correct_76 : decode b_MD_correct 76 = .ok (.iconst 0, 1) := by decide +kernel
theorem d_MD_correct_77 : decode b_MD_correct 77 = .ok (.bastore, 1) := by decide +kernel
theorem d_MD_correct_78 : decode b_MD_correct 78 = .ok (.aload_n 0, 1) := by decide +kernel
theorem d_MD_correct_79 : decode b_MD_correct 79 = .ok (.aload_n 0, 1) := by decide +kernel
theorem d_MD_correct_80 : decode b_MD_correct 80 = .ok (.getfield 34, 3) := by decide +kernel
theorem d_MD_correct_83 : decode b_MD_correct 83 = .ok (.iload_n 1, 1) := by decide +kernel
theorem d_MD_correct_84 : decode b_MD_correct 84 = .ok (.iaload, 1) := by decide +kernel
theorem d_MD_correct_85 : decode b_MD_correct 85 = .ok (.aload_n 0, 1) := by decide +kernel
theorem d_MD_correct_86 : decode b_MD_correct 86 = .ok (.getfield 37, 3) := by decide +kernel
theorem d_MD_correct_89 : decode b_MD_correct 89 = .ok (.iload_n 1, 1) := by decide +kernel
theorem d_MD_correct_90 : decode b_MD_correct 90 = .ok (.iaload, 1) := by decide +kernel
theorem d_MD_correct_91 : decode b_MD_correct 91 = .ok (.iconst 0, 1) := by decide +kernel
theorem d_MD_correct_92 : decode b_MD_correct 92 = .ok (.iconst 0, 1) := by decide +kernel
theorem d_MD_correct_93 : decode b_MD_correct 93 = .ok (.lload_n 2, 1) := by decide +kernel
theorem d_MD_correct_94 : decode b_MD_correct 94 = .ok (.aload_n 0, 1) := by decide +kernel
theorem d_MD_correct_95 : decode b_MD_correct 95 = .ok (.iload_n 1, 1) := by decide +kernel
theorem d_MD_correct_96 : decode b_MD_correct 96 = .ok (.invokevirtual 144, 3) := by decide +kernel
theorem d_MD_correct_99 : decode b_MD_correct 99 = .ok (.lsub, 1) := by decide +kernel
theorem d_MD_correct_100 : decode b_MD_correct 100 = .ok (.iload_n 1, 1) := by decide +kernel
theorem d_MD_correct_101 : decode b_MD_correct 101 = .ok (.invokevirtual 127, 3) := by decide +kernel
theorem d_MD_correct_104 : decode b_MD_correct 104 = .ok (.aload_n 0, 1) := by decide +kernel
theorem d_MD_correct_105 : decode b_MD_correct 105 = .ok (.getfield 118, 3) := by decide +kernel
theorem d_MD_correct_108 : decode b_MD_correct 108 = .ok (.iconst 1, 1) := by decide +kernel
theorem d_MD_correct_109 : decode b_MD_correct 109 = .ok (.isub, 1) := by decide +kernel
theorem d_MD_correct_110 : decode b_MD_correct 110 = .ok (.ireturn, 1) := by decide +kernel
theorem d_MD_dispute_0 : decode b_MD_dispute 0 = .ok (.aload_n 0, 1) := by decide +kernel
theorem d_MD_dispute_1 : decode b_MD_dispute 1 = .ok (.iload_n 1, 1) := by decide +kernel
theorem d_MD_dispute_2 : decode b_MD_dispute 2 = .ok (.invokevirtual 139, 3) := by decide +kernel
theorem d_MD_dispute_5 : decode b_MD_dispute 5 = .ok (.ifCond .ne 9, 3) := by decide +kernel
theorem d_MD_dispute_8 : decode b_MD_dispute 8 = .ok (.aload_n 0, 1) := by decide +kernel
theorem d_MD_dispute_9 : decode b_MD_dispute 9 = .ok (.iconst 1, 1) := by decide +kernel
theorem d_MD_dispute_10 : decode b_MD_dispute 10 = .ok (.invokevirtual 102, 3) := by decide +kernel
theorem d_MD_dispute_13 : decode b_MD_dispute 13 = .ok (.ireturn, 1) := by decide +kernel
theorem d_MD_dispute_14 : decode b_MD_dispute 14 = .ok (.aload_n 0, 1) := by decide +kernel
theorem d_MD_dispute_15 : decode b_MD_dispute 15 = .ok (.iconst 0, 1) := by decide +kernel
theorem d_MD_dispute_16 : decode b_MD_dispute 16 = .ok (.putfield 63, 3) := by decide +kernel
theorem d_MD_dispute_19 : decode b_MD_dispute 19 = .ok (.aload_n 0, 1) := by decide +kernel
theorem d_MD_dispute_20 : decode b_MD_dispute 20 = .ok (.getfield 50, 3) := by decide +kernel
theorem d_MD_dispute_23 : decode b_MD_dispute 23 = .ok (.iload_n 1, 1) := by decide +kernel
theorem d_MD_dispute_24 : decode b_MD_dispute 24 = .ok (.iaload, 1) := by decide +kernel
theorem d_MD_dispute_25 : decode b_MD_dispute 25 = .ok (.iconst (-1), 1) := by decide +kernel
theorem d_MD_dispute_26 : decode b_MD_dispute 26 = .ok (.if_icmp .ne 13, 3) := by decide +kernel
theorem d_MD_dispute_29 : decode b_MD_dispute 29 = .ok (.aload_n 0, 1) := by decide +kernel
theorem d_MD_dispute_30 : decode b_MD_dispute 30 = .ok (.getfield 53, 3) := by decide +kernel
theorem d_MD_dispute_33 : decode b_MD_dispute 33 = .ok (.iload_n 1, 1) := by decide +kernel
theorem d_MD_dispute_34 : decode b_MD_dispute 34 = .ok (.baload, 1) := by decide +kernel
theorem d_MD_dispute_35 : decode b_MD_dispute 35 = .ok (.iload_n 2, 1) := by decide +kernel
theorem d_MD_dispute_36 : decode b_MD_dispute 36 = .ok (.if_icmp .ne 5, 3) := by decide +kernel
theorem d_MD_dispute_39 : decode b_MD_dispute 39 = .ok (.iconst 0, 1) := by decide +kernel
theorem d_MD_dispute_40 : decode b_MD_dispute 40 = .ok (.ireturn, 1) := by decide +kernel
theorem d_MD_dispute_41 : decode b_MD_dispute 41 = .ok (.aload_n 0, 1) := by decide +kernel
theorem d_MD_dispute_42 : decode b_MD_dispute 42 = .ok (.getfield 53, 3) := by decide +kernel
theorem d_MD_dispute_45 : decode b_MD_dispute 45 = .ok (.iload_n 1, 1) := by decide +kernel
theorem d_MD_dispute_46 : decode b_MD_dispute 46 = .ok (.iload_n 2, 1) := by decide +kernel
theorem d_MD_dispute_47 : decode b_MD_dispute 47 = .ok (.bastore, 1) := by decide +kernel
theorem d_MD_dispute_48 : decode b_MD_dispute 48 = .ok (.iconst 1, 1) := by decide +kernel
theorem d_MD_dispute_49 : decode b_MD_dispute 49 = .ok (.ireturn, 1) := by decide +kernel
theorem d_MD_isOut_0 : decode b_MD_isOut 0 = .ok (.aload_n 0, 1) := by decide +kernel
theorem d_MD_isOut_1 : decode b_MD_isOut 1 = .ok (.getfield 53, 3) := by decide +kernel
theorem d_MD_isOut_4 : decode b_MD_isOut 4 = .ok (.aload_n 0, 1) := by decide +kernel
theorem d_MD_isOut_5 : decode b_MD_isOut 5 = .ok (.getfield 50, 3) := by decide +kernel
theorem d_MD_isOut_8 : decode b_MD_isOut 8 = .ok (.iload_n 1, 1) := by decide +kernel
theorem d_MD_isOut_9 : decode b_MD_isOut 9 = .ok (.iaload, 1) := by decide +kernel
theorem d_MD_isOut_10 : decode b_MD_isOut 10 = .ok (.iconst (-1), 1) := by decide +kernel
theorem d_MD_isOut_11 : decode b_MD_isOut 11 = .ok (.if_icmp .ne 7, 3) := by decide +kernel
theorem d_MD_isOut_14 : decode b_MD_isOut 14 = .ok (.iload_n 1, 1) := by decide +kernel
theorem d_MD_isOut_15 : decode b_MD_isOut 15 = .ok (.goto 9, 3) := by decide +kernel
theorem d_MD_isOut_18 : decode b_MD_isOut 18 = .ok (.aload_n 0, 1) := by decide +kernel
theorem d_MD_isOut_19 : decode b_MD_isOut 19 = .ok (.getfield 50, 3) := by decide +kernel
theorem d_MD_isOut_22 : decode b_MD_isOut 22 = .ok (.iload_n 1, 1) := by decide +kernel
theorem d_MD_isOut_23 : decode b_MD_isOut 23 = .ok (.iaload, 1) := by decide +kernel
theorem d_MD_isOut_24 : decode b_MD_isOut 24 = .ok (.baload, 1) := by decide +kernel
theorem d_MD_isOut_25 : decode b_MD_isOut 25 = .ok (.ireturn, 1) := by decide +kernel
theorem d_MD_left_0 : decode b_MD_left 0 = .ok (.aload_n 0, 1) := by decide +kernel
theorem d_MD_left_1 : decode b_MD_left 1 = .ok (.getfield 60, 3) := by decide +kernel
theorem d_MD_left_4 : decode b_MD_left 4 = .ok (.iload_n 1, 1) := by decide +kernel
theorem d_MD_left_5 : decode b_MD_left 5 = .ok (.laload, 1) := by decide +kernel
theorem d_MD_left_6 : decode b_MD_left 6 = .ok (.lneg, 1) := by decide +kernel
theorem d_MD_left_7 : decode b_MD_left 7 = .ok (.lstore_n 2, 1) := by decide +kernel
theorem d_MD_left_8 : decode b_MD_left 8 = .ok (.iconst 0, 1) := by decide +kernel
theorem d_MD_left_9 : decode b_MD_left 9 = .ok (.istore 4, 2) := by decide +kernel
theorem d_MD_left_11 : decode b_MD_left 11 = .ok (.iload 4, 2) := by decide +kernel
theorem d_MD_left_13 : decode b_MD_left 13 = .ok (.aload_n 0, 1) := by decide +kernel
theorem d_MD_left_14 : decode b_MD_left 14 = .ok (.getfield 118, 3) := by decide +kernel
theorem d_MD_left_17 : decode b_MD_left 17 = .ok (.if_icmp .ge 43, 3) := by decide +kernel
theorem d_MD_left_20 : decode b_MD_left 20 = .ok (.lload_n 2, 1) := by decide +kernel
theorem d_MD_left_21 : decode b_MD_left 21 = .ok (.aload_n 0, 1) := by decide +kernel
theorem d_MD_left_22 : decode b_MD_left 22 = .ok (.getfield 34, 3) := by decide +kernel
theorem d_MD_left_25 : decode b_MD_left 25 = .ok (.iload 4, 2) := by decide +kernel
theorem d_MD_left_27 : decode b_MD_left 27 = .ok (.iaload, 1) := by decide +kernel
theorem d_MD_left_28 : decode b_MD_left 28 = .ok (.iload_n 1, 1) := by decide +kernel
theorem d_MD_left_29 : decode b_MD_left 29 = .ok (.if_icmp .ne 22, 3) := by decide +kernel
theorem d_MD_left_32 : decode b_MD_left 32 = .ok (.aload_n 0, 1) := by decide +kernel
theorem d_MD_left_33 : decode b_MD_left 33 = .ok (.iload 4, 2) := by decide +kernel
theorem d_MD_left_35 : decode b_MD_left 35 = .ok (.invokevirtual 148, 3) := by decide +kernel
theorem d_MD_left_38 : decode b_MD_left 38 = .ok (.ifCond .ne 13, 3) := by decide +kernel
theorem d_MD_left_41 : decode b_MD_left 41 = .ok (.aload_n 0, 1) := by decide +kernel
theorem d_MD_left_42 : decode b_MD_left 42 = .ok (.getfield 46, 3) := by decide +kernel
theorem d_MD_left_45 : decode b_MD_left 45 = .ok (.iload 4, 2) := by decide +kernel
theorem d_MD_left_47 : decode b_MD_left 47 = .ok (.laload, 1) := by decide +kernel
theorem d_MD_left_48 : decode b_MD_left 48 = .ok (.goto 4, 3) := by decide +kernel
theorem d_MD_left_51 : decode b_MD_left 51 = .ok (.lconst 0, 1) := by decide +kernel
theorem d_MD_left_52 : decode b_MD_left 52 = .ok (.ladd, 1) := by decide +kernel
theorem d_MD_left_53 : decode b_MD_left 53 = .ok (.lstore_n 2, 1) := by decide +kernel
theorem d_MD_left_54 : decode b_MD_left 54 = .ok (.iinc 4 1, 3) := by decide +kernel
theorem d_MD_left_57 : decode b_MD_left 57 = .ok (.goto (-46), 3) := by decide +kernel
theorem d_MD_left_60 : decode b_MD_left 60 = .ok (.lload_n 2, 1) := by decide +kernel
theorem d_MD_left_61 : decode b_MD_left 61 = .ok (.lreturn, 1) := by decide +kernel
theorem d_MD_pay_0 : decode b_MD_pay 0 = .ok (.iload_n 1, 1) := by decide +kernel
theorem d_MD_pay_1 : decode b_MD_pay 1 = .ok (.invokestatic 105, 3) := by decide +kernel
theorem d_MD_pay_4 : decode b_MD_pay 4 = .ok (.ifCond .eq 14, 3) := by decide +kernel
theorem d_MD_pay_7 : decode b_MD_pay 7 = .ok (.lload_n 2, 1) := by decide +kernel
theorem d_MD_pay_8 : decode b_MD_pay 8 = .ok (.lconst 1, 1) := by decide +kernel
theorem d_MD_pay_9 : decode b_MD_pay 9 = .ok (.ldc2_w 142, 3) := by decide +kernel
theorem d_MD_pay_12 : decode b_MD_pay 12 = .ok (.invokestatic 71, 3) := by decide +kernel
theorem d_MD_pay_15 : decode b_MD_pay 15 = .ok (.ifCond .ne 10, 3) := by decide +kernel
theorem d_MD_pay_18 : decode b_MD_pay 18 = .ok (.aload_n 0, 1) := by decide +kernel
theorem d_MD_pay_19 : decode b_MD_pay 19 = .ok (.iconst 1, 1) := by decide +kernel
theorem d_MD_pay_20 : decode b_MD_pay 20 = .ok (.invokevirtual 102, 3) := by decide +kernel
theorem d_MD_pay_23 : decode b_MD_pay 23 = .ok (.i2l, 1) := by decide +kernel
theorem d_MD_pay_24 : decode b_MD_pay 24 = .ok (.lreturn, 1) := by decide +kernel
theorem d_MD_pay_25 : decode b_MD_pay 25 = .ok (.aload_n 0, 1) := by decide +kernel
theorem d_MD_pay_26 : decode b_MD_pay 26 = .ok (.iconst 0, 1) := by decide +kernel
theorem d_MD_pay_27 : decode b_MD_pay 27 = .ok (.putfield 63, 3) := by decide +kernel
theorem d_MD_pay_30 : decode b_MD_pay 30 = .ok (.aload_n 0, 1) := by decide +kernel
theorem d_MD_pay_31 : decode b_MD_pay 31 = .ok (.getfield 60, 3) := by decide +kernel
theorem d_MD_pay_34 : decode b_MD_pay 34 = .ok (.iload_n 1, 1) := by decide +kernel
theorem d_MD_pay_35 : decode b_MD_pay 35 = .ok (.dup2, 1) := by decide +kernel
theorem d_MD_pay_36 : decode b_MD_pay 36 = .ok (.laload, 1) := by decide +kernel
theorem d_MD_pay_37 : decode b_MD_pay 37 = .ok (.lload_n 2, 1) := by decide +kernel
theorem d_MD_pay_38 : decode b_MD_pay 38 = .ok (.ladd, 1) := by decide +kernel
theorem d_MD_pay_39 : decode b_MD_pay 39 = .ok (.lastore, 1) := by decide +kernel
theorem d_MD_pay_40 : decode b_MD_pay 40 = .ok (.aload_n 0, 1) := by decide +kernel
theorem d_MD_pay_41 : decode b_MD_pay 41 = .ok (.iload_n 1, 1) := by decide +kernel
theorem d_MD_pay_42 : decode b_MD_pay 42 = .ok (.invokevirtual 151, 3) := by decide +kernel
theorem d_MD_pay_45 : decode b_MD_pay 45 = .ok (.lreturn, 1) := by decide +kernel
theorem d_MD_unpaid_0 : decode b_MD_unpaid 0 = .ok (.aload_n 0, 1) := by decide +kernel
theorem d_MD_unpaid_1 : decode b_MD_unpaid 1 = .ok (.iload_n 1, 1) := by decide +kernel
theorem d_MD_unpaid_2 : decode b_MD_unpaid 2 = .ok (.invokestatic 105, 3) := by decide +kernel
theorem d_MD_unpaid_5 : decode b_MD_unpaid 5 = .ok (.ifCond .eq 7, 3) := by decide +kernel
theorem d_MD_unpaid_8 : decode b_MD_unpaid 8 = .ok (.iconst 0, 1) := by decide +kernel
theorem d_MD_unpaid_9 : decode b_MD_unpaid 9 = .ok (.goto 4, 3) := by decide +kernel
theorem d_MD_unpaid_12 : decode b_MD_unpaid 12 = .ok (.iconst 1, 1) := by decide +kernel
theorem d_MD_unpaid_13 : decode b_MD_unpaid 13 = .ok (.putfield 63, 3) := by decide +kernel
theorem d_MD_unpaid_16 : decode b_MD_unpaid 16 = .ok (.aload_n 0, 1) := by decide +kernel
theorem d_MD_unpaid_17 : decode b_MD_unpaid 17 = .ok (.getfield 63, 3) := by decide +kernel
theorem d_MD_unpaid_20 : decode b_MD_unpaid 20 = .ok (.ifCond .le 7, 3) := by decide +kernel
theorem d_MD_unpaid_23 : decode b_MD_unpaid 23 = .ok (.lconst 0, 1) := by decide +kernel
theorem d_MD_unpaid_24 : decode b_MD_unpaid 24 = .ok (.goto 8, 3) := by decide +kernel
theorem d_MD_unpaid_27 : decode b_MD_unpaid 27 = .ok (.aload_n 0, 1) := by decide +kernel
theorem d_MD_unpaid_28 : decode b_MD_unpaid 28 = .ok (.iload_n 1, 1) := by decide +kernel
theorem d_MD_unpaid_29 : decode b_MD_unpaid 29 = .ok (.invokevirtual 151, 3) := by decide +kernel
theorem d_MD_unpaid_32 : decode b_MD_unpaid 32 = .ok (.lreturn, 1) := by decide +kernel
theorem d_MD_share_0 : decode b_MD_share 0 = .ok (.lload_n 1, 1) := by decide +kernel
theorem d_MD_share_1 : decode b_MD_share 1 = .ok (.lconst 0, 1) := by decide +kernel
theorem d_MD_share_2 : decode b_MD_share 2 = .ok (.ldc2_w 142, 3) := by decide +kernel
theorem d_MD_share_5 : decode b_MD_share 5 = .ok (.invokestatic 71, 3) := by decide +kernel
theorem d_MD_share_8 : decode b_MD_share 8 = .ok (.ifCond .eq 28, 3) := by decide +kernel
theorem d_MD_share_11 : decode b_MD_share 11 = .ok (.iload_n 3, 1) := by decide +kernel
theorem d_MD_share_12 : decode b_MD_share 12 = .ok (.i2l, 1) := by decide +kernel
theorem d_MD_share_13 : decode b_MD_share 13 = .ok (.lconst 0, 1) := by decide +kernel
theorem d_MD_share_14 : decode b_MD_share 14 = .ok (.ldc2_w 154, 3) := by decide +kernel
theorem d_MD_share_17 : decode b_MD_share 17 = .ok (.invokestatic 71, 3) := by decide +kernel
theorem d_MD_share_20 : decode b_MD_share 20 = .ok (.ifCond .eq 16, 3) := by decide +kernel
theorem d_MD_share_23 : decode b_MD_share 23 = .ok (.iload 4, 2) := by decide +kernel
theorem d_MD_share_25 : decode b_MD_share 25 = .ok (.i2l, 1) := by decide +kernel
theorem d_MD_share_26 : decode b_MD_share 26 = .ok (.lconst 0, 1) := by decide +kernel
theorem d_MD_share_27 : decode b_MD_share 27 = .ok (.ldc2_w 154, 3) := by decide +kernel
theorem d_MD_share_30 : decode b_MD_share 30 = .ok (.invokestatic 71, 3) := by decide +kernel
theorem d_MD_share_33 : decode b_MD_share 33 = .ok (.ifCond .ne 10, 3) := by decide +kernel
theorem d_MD_share_36 : decode b_MD_share 36 = .ok (.aload_n 0, 1) := by decide +kernel
theorem d_MD_share_37 : decode b_MD_share 37 = .ok (.iconst 1, 1) := by decide +kernel
theorem d_MD_share_38 : decode b_MD_share 38 = .ok (.invokevirtual 102, 3) := by decide +kernel
theorem d_MD_share_41 : decode b_MD_share 41 = .ok (.i2l, 1) := by decide +kernel
theorem d_MD_share_42 : decode b_MD_share 42 = .ok (.lreturn, 1) := by decide +kernel
theorem d_MD_share_43 : decode b_MD_share 43 = .ok (.iload 4, 2) := by decide +kernel
theorem d_MD_share_45 : decode b_MD_share 45 = .ok (.ifCond .ne 10, 3) := by decide +kernel
theorem d_MD_share_48 : decode b_MD_share 48 = .ok (.aload_n 0, 1) := by decide +kernel
theorem d_MD_share_49 : decode b_MD_share 49 = .ok (.iconst 2, 1) := by decide +kernel
theorem d_MD_share_50 : decode b_MD_share 50 = .ok (.invokevirtual 102, 3) := by decide +kernel
theorem d_MD_share_53 : decode b_MD_share 53 = .ok (.i2l, 1) := by decide +kernel
theorem d_MD_share_54 : decode b_MD_share 54 = .ok (.lreturn, 1) := by decide +kernel
theorem d_MD_share_55 : decode b_MD_share 55 = .ok (.aload_n 0, 1) := by decide +kernel
theorem d_MD_share_56 : decode b_MD_share 56 = .ok (.iconst 0, 1) := by decide +kernel
theorem d_MD_share_57 : decode b_MD_share 57 = .ok (.putfield 63, 3) := by decide +kernel
theorem d_MD_share_60 : decode b_MD_share 60 = .ok (.lload_n 1, 1) := by decide +kernel
theorem d_MD_share_61 : decode b_MD_share 61 = .ok (.iload_n 3, 1) := by decide +kernel
theorem d_MD_share_62 : decode b_MD_share 62 = .ok (.i2l, 1) := by decide +kernel
theorem d_MD_share_63 : decode b_MD_share 63 = .ok (.lmul, 1) := by decide +kernel
theorem d_MD_share_64 : decode b_MD_share 64 = .ok (.iload 4, 2) := by decide +kernel
theorem d_MD_share_66 : decode b_MD_share 66 = .ok (.i2l, 1) := by decide +kernel
theorem d_MD_share_67 : decode b_MD_share 67 = .ok (.ldiv, 1) := by decide +kernel
theorem d_MD_share_68 : decode b_MD_share 68 = .ok (.lreturn, 1) := by decide +kernel
theorem d_MD_line_0 : decode b_MD_line 0 = .ok (.aload_n 0, 1) := by decide +kernel
theorem d_MD_line_1 : decode b_MD_line 1 = .ok (.iload_n 1, 1) := by decide +kernel
theorem d_MD_line_2 : decode b_MD_line 2 = .ok (.invokevirtual 139, 3) := by decide +kernel
theorem d_MD_line_5 : decode b_MD_line 5 = .ok (.ifCond .eq 13, 3) := by decide +kernel
theorem d_MD_line_8 : decode b_MD_line 8 = .ok (.iload_n 2, 1) := by decide +kernel
theorem d_MD_line_9 : decode b_MD_line 9 = .ok (.ifCond .lt 9, 3) := by decide +kernel
theorem d_MD_line_12 : decode b_MD_line 12 = .ok (.iload_n 2, 1) := by decide +kernel
theorem d_MD_line_13 : decode b_MD_line 13 = .ok (.bipush 8, 2) := by decide +kernel
theorem d_MD_line_15 : decode b_MD_line 15 = .ok (.if_icmp .le 10, 3) := by decide +kernel
theorem d_MD_line_18 : decode b_MD_line 18 = .ok (.aload_n 0, 1) := by decide +kernel
theorem d_MD_line_19 : decode b_MD_line 19 = .ok (.iconst 1, 1) := by decide +kernel
theorem d_MD_line_20 : decode b_MD_line 20 = .ok (.invokevirtual 102, 3) := by decide +kernel
theorem d_MD_line_23 : decode b_MD_line 23 = .ok (.i2l, 1) := by decide +kernel
theorem d_MD_line_24 : decode b_MD_line 24 = .ok (.lreturn, 1) := by decide +kernel
theorem d_MD_line_25 : decode b_MD_line 25 = .ok (.aload_n 0, 1) := by decide +kernel
theorem d_MD_line_26 : decode b_MD_line 26 = .ok (.iconst 0, 1) := by decide +kernel
theorem d_MD_line_27 : decode b_MD_line 27 = .ok (.putfield 63, 3) := by decide +kernel
theorem d_MD_line_30 : decode b_MD_line 30 = .ok (.iload_n 2, 1) := by decide +kernel
theorem d_MD_line_31 : decode b_MD_line 31 = .ok (.tableswitch 121 0 7 #[45, 53, 61, 69, 77, 84, 92, 106], 45) := by decide +kernel
theorem d_MD_line_76 : decode b_MD_line 76 = .ok (.aload_n 0, 1) := by decide +kernel
theorem d_MD_line_77 : decode b_MD_line 77 = .ok (.getfield 34, 3) := by decide +kernel
theorem d_MD_line_80 : decode b_MD_line 80 = .ok (.iload_n 1, 1) := by decide +kernel
theorem d_MD_line_81 : decode b_MD_line 81 = .ok (.iaload, 1) := by decide +kernel
theorem d_MD_line_82 : decode b_MD_line 82 = .ok (.i2l, 1) := by decide +kernel
theorem d_MD_line_83 : decode b_MD_line 83 = .ok (.lreturn, 1) := by decide +kernel
theorem d_MD_line_84 : decode b_MD_line 84 = .ok (.aload_n 0, 1) := by decide +kernel
theorem d_MD_line_85 : decode b_MD_line 85 = .ok (.getfield 37, 3) := by decide +kernel
theorem d_MD_line_88 : decode b_MD_line 88 = .ok (.iload_n 1, 1) := by decide +kernel
theorem d_MD_line_89 : decode b_MD_line 89 = .ok (.iaload, 1) := by decide +kernel
theorem d_MD_line_90 : decode b_MD_line 90 = .ok (.i2l, 1) := by decide +kernel
theorem d_MD_line_91 : decode b_MD_line 91 = .ok (.lreturn, 1) := by decide +kernel
theorem d_MD_line_92 : decode b_MD_line 92 = .ok (.aload_n 0, 1) := by decide +kernel
theorem d_MD_line_93 : decode b_MD_line 93 = .ok (.getfield 40, 3) := by decide +kernel
theorem d_MD_line_96 : decode b_MD_line 96 = .ok (.iload_n 1, 1) := by decide +kernel
theorem d_MD_line_97 : decode b_MD_line 97 = .ok (.iaload, 1) := by decide +kernel
theorem d_MD_line_98 : decode b_MD_line 98 = .ok (.i2l, 1) := by decide +kernel
theorem d_MD_line_99 : decode b_MD_line 99 = .ok (.lreturn, 1) := by decide +kernel
theorem d_MD_line_100 : decode b_MD_line 100 = .ok (.aload_n 0, 1) := by decide +kernel
theorem d_MD_line_101 : decode b_MD_line 101 = .ok (.getfield 43, 3) := by decide +kernel
theorem d_MD_line_104 : decode b_MD_line 104 = .ok (.iload_n 1, 1) := by decide +kernel
theorem d_MD_line_105 : decode b_MD_line 105 = .ok (.iaload, 1) := by decide +kernel
theorem d_MD_line_106 : decode b_MD_line 106 = .ok (.i2l, 1) := by decide +kernel
theorem d_MD_line_107 : decode b_MD_line 107 = .ok (.lreturn, 1) := by decide +kernel
theorem d_MD_line_108 : decode b_MD_line 108 = .ok (.aload_n 0, 1) := by decide +kernel
theorem d_MD_line_109 : decode b_MD_line 109 = .ok (.getfield 46, 3) := by decide +kernel
theorem d_MD_line_112 : decode b_MD_line 112 = .ok (.iload_n 1, 1) := by decide +kernel
theorem d_MD_line_113 : decode b_MD_line 113 = .ok (.laload, 1) := by decide +kernel
theorem d_MD_line_114 : decode b_MD_line 114 = .ok (.lreturn, 1) := by decide +kernel
theorem d_MD_line_115 : decode b_MD_line 115 = .ok (.aload_n 0, 1) := by decide +kernel
theorem d_MD_line_116 : decode b_MD_line 116 = .ok (.getfield 50, 3) := by decide +kernel
theorem d_MD_line_119 : decode b_MD_line 119 = .ok (.iload_n 1, 1) := by decide +kernel
theorem d_MD_line_120 : decode b_MD_line 120 = .ok (.iaload, 1) := by decide +kernel
theorem d_MD_line_121 : decode b_MD_line 121 = .ok (.i2l, 1) := by decide +kernel
theorem d_MD_line_122 : decode b_MD_line 122 = .ok (.lreturn, 1) := by decide +kernel
theorem d_MD_line_123 : decode b_MD_line 123 = .ok (.aload_n 0, 1) := by decide +kernel
theorem d_MD_line_124 : decode b_MD_line 124 = .ok (.iload_n 1, 1) := by decide +kernel
theorem d_MD_line_125 : decode b_MD_line 125 = .ok (.invokevirtual 148, 3) := by decide +kernel
theorem d_MD_line_128 : decode b_MD_line 128 = .ok (.ifCond .eq 7, 3) := by decide +kernel
theorem d_MD_line_131 : decode b_MD_line 131 = .ok (.lconst 1, 1) := by decide +kernel
theorem d_MD_line_132 : decode b_MD_line 132 = .ok (.goto 4, 3) := by decide +kernel
theorem d_MD_line_135 : decode b_MD_line 135 = .ok (.lconst 0, 1) := by decide +kernel
theorem d_MD_line_136 : decode b_MD_line 136 = .ok (.lreturn, 1) := by decide +kernel
theorem d_MD_line_137 : decode b_MD_line 137 = .ok (.aload_n 0, 1) := by decide +kernel
theorem d_MD_line_138 : decode b_MD_line 138 = .ok (.getfield 57, 3) := by decide +kernel
theorem d_MD_line_141 : decode b_MD_line 141 = .ok (.iload_n 1, 1) := by decide +kernel
theorem d_MD_line_142 : decode b_MD_line 142 = .ok (.baload, 1) := by decide +kernel
theorem d_MD_line_143 : decode b_MD_line 143 = .ok (.ifCond .eq 7, 3) := by decide +kernel
theorem d_MD_line_146 : decode b_MD_line 146 = .ok (.lconst 1, 1) := by decide +kernel
theorem d_MD_line_147 : decode b_MD_line 147 = .ok (.goto 4, 3) := by decide +kernel
theorem d_MD_line_150 : decode b_MD_line 150 = .ok (.lconst 0, 1) := by decide +kernel
theorem d_MD_line_151 : decode b_MD_line 151 = .ok (.lreturn, 1) := by decide +kernel
theorem d_MD_line_152 : decode b_MD_line 152 = .ok (.aload_n 0, 1) := by decide +kernel
theorem d_MD_line_153 : decode b_MD_line 153 = .ok (.getfield 50, 3) := by decide +kernel
theorem d_MD_line_156 : decode b_MD_line 156 = .ok (.iload_n 1, 1) := by decide +kernel
theorem d_MD_line_157 : decode b_MD_line 157 = .ok (.iaload, 1) := by decide +kernel
theorem d_MD_line_158 : decode b_MD_line 158 = .ok (.iconst (-1), 1) := by decide +kernel
theorem d_MD_line_159 : decode b_MD_line 159 = .ok (.if_icmp .ne 11, 3) := by decide +kernel
theorem d_MD_line_162 : decode b_MD_line 162 = .ok (.aload_n 0, 1) := by decide +kernel
theorem d_MD_line_163 : decode b_MD_line 163 = .ok (.iload_n 1, 1) := by decide +kernel
theorem d_MD_line_164 : decode b_MD_line 164 = .ok (.invokevirtual 144, 3) := by decide +kernel
theorem d_MD_line_167 : decode b_MD_line 167 = .ok (.goto 9, 3) := by decide +kernel
theorem d_MD_line_170 : decode b_MD_line 170 = .ok (.aload_n 0, 1) := by decide +kernel
theorem d_MD_line_171 : decode b_MD_line 171 = .ok (.getfield 46, 3) := by decide +kernel
theorem d_MD_line_174 : decode b_MD_line 174 = .ok (.iload_n 1, 1) := by decide +kernel
theorem d_MD_line_175 : decode b_MD_line 175 = .ok (.laload, 1) := by decide +kernel
theorem d_MD_line_176 : decode b_MD_line 176 = .ok (.lreturn, 1) := by decide +kernel
theorem d_MD_count_0 : decode b_MD_count 0 = .ok (.aload_n 0, 1) := by decide +kernel
theorem d_MD_count_1 : decode b_MD_count 1 = .ok (.iconst 0, 1) := by decide +kernel
theorem d_MD_count_2 : decode b_MD_count 2 = .ok (.putfield 63, 3) := by decide +kernel
theorem d_MD_count_5 : decode b_MD_count 5 = .ok (.iconst 0, 1) := by decide +kernel
theorem d_MD_count_6 : decode b_MD_count 6 = .ok (.istore_n 2, 1) := by decide +kernel
theorem d_MD_count_7 : decode b_MD_count 7 = .ok (.iload_n 1, 1) := by decide +kernel
theorem d_MD_count_8 : decode b_MD_count 8 = .ok (.bipush 20, 2) := by decide +kernel
theorem d_MD_count_10 : decode b_MD_count 10 = .ok (.if_icmp .lt 56, 3) := by decide +kernel
theorem d_MD_count_13 : decode b_MD_count 13 = .ok (.iconst 0, 1) := by decide +kernel
theorem d_MD_count_14 : decode b_MD_count 14 = .ok (.istore_n 3, 1) := by decide +kernel
theorem d_MD_count_15 : decode b_MD_count 15 = .ok (.iload_n 3, 1) := by decide +kernel
theorem d_MD_count_16 : decode b_MD_count 16 = .ok (.aload_n 0, 1) := by decide +kernel
theorem d_MD_count_17 : decode b_MD_count 17 = .ok (.getfield 110, 3) := by decide +kernel
theorem d_MD_count_20 : decode b_MD_count 20 = .ok (.if_icmp .ge 30, 3) := by decide +kernel
theorem d_MD_count_23 : decode b_MD_count 23 = .ok (.iload_n 2, 1) := by decide +kernel
theorem d_MD_count_24 : decode b_MD_count 24 = .ok (.aload_n 0, 1) := by decide +kernel
theorem d_MD_count_25 : decode b_MD_count 25 = .ok (.getfield 16, 3) := by decide +kernel
theorem d_MD_count_28 : decode b_MD_count 28 = .ok (.iload_n 3, 1) := by decide +kernel
theorem d_MD_count_29 : decode b_MD_count 29 = .ok (.iaload, 1) := by decide +kernel
theorem d_MD_count_30 : decode b_MD_count 30 = .ok (.iload_n 1, 1) := by decide +kernel
theorem d_MD_count_31 : decode b_MD_count 31 = .ok (.bipush 20, 2) := by decide +kernel
theorem d_MD_count_33 : decode b_MD_count 33 = .ok (.isub, 1) := by decide +kernel
theorem d_MD_count_34 : decode b_MD_count 34 = .ok (.if_icmp .ne 7, 3) := by decide +kernel
theorem d_MD_count_37 : decode b_MD_count 37 = .ok (.iconst 1, 1) := by decide +kernel
theorem d_MD_count_38 : decode b_MD_count 38 = .ok (.goto 4, 3) := by decide +kernel
theorem d_MD_count_41 : decode b_MD_count 41 = .ok (.iconst 0, 1) := by decide +kernel
theorem d_MD_count_42 : decode b_MD_count 42 = .ok (.iadd, 1) := by decide +kernel
theorem d_MD_count_43 : decode b_MD_count 43 = .ok (.istore_n 2, 1) := by decide +kernel
theorem d_MD_count_44 : decode b_MD_count 44 = .ok (.iinc 3 1, 3) := by decide +kernel
theorem d_MD_count_47 : decode b_MD_count 47 = .ok (.goto (-32), 3) := by decide +kernel
theorem d_MD_count_50 : decode b_MD_count 50 = .ok (.iload_n 1, 1) := by decide +kernel
theorem d_MD_count_51 : decode b_MD_count 51 = .ok (.bipush 20, 2) := by decide +kernel
theorem d_MD_count_53 : decode b_MD_count 53 = .ok (.isub, 1) := by decide +kernel
theorem d_MD_count_54 : decode b_MD_count 54 = .ok (.invokestatic 105, 3) := by decide +kernel
theorem d_MD_count_57 : decode b_MD_count 57 = .ok (.ifCond .eq 7, 3) := by decide +kernel
theorem d_MD_count_60 : decode b_MD_count 60 = .ok (.iload_n 2, 1) := by decide +kernel
theorem d_MD_count_61 : decode b_MD_count 61 = .ok (.goto 4, 3) := by decide +kernel
theorem d_MD_count_64 : decode b_MD_count 64 = .ok (.iconst (-1), 1) := by decide +kernel
theorem d_MD_count_65 : decode b_MD_count 65 = .ok (.ireturn, 1) := by decide +kernel
theorem d_MD_count_66 : decode b_MD_count 66 = .ok (.iload_n 1, 1) := by decide +kernel
theorem d_MD_count_67 : decode b_MD_count 67 = .ok (.bipush 10, 2) := by decide +kernel
theorem d_MD_count_69 : decode b_MD_count 69 = .ok (.if_icmp .lt 42, 3) := by decide +kernel
theorem d_MD_count_72 : decode b_MD_count 72 = .ok (.iconst 0, 1) := by decide +kernel
theorem d_MD_count_73 : decode b_MD_count 73 = .ok (.istore_n 3, 1) := by decide +kernel
theorem d_MD_count_74 : decode b_MD_count 74 = .ok (.iload_n 3, 1) := by decide +kernel
theorem d_MD_count_75 : decode b_MD_count 75 = .ok (.aload_n 0, 1) := by decide +kernel
theorem d_MD_count_76 : decode b_MD_count 76 = .ok (.getfield 118, 3) := by decide +kernel
theorem d_MD_count_79 : decode b_MD_count 79 = .ok (.if_icmp .ge 30, 3) := by decide +kernel
theorem d_MD_count_82 : decode b_MD_count 82 = .ok (.iload_n 2, 1) := by decide +kernel
theorem d_MD_count_83 : decode b_MD_count 83 = .ok (.aload_n 0, 1) := by decide +kernel
theorem d_MD_count_84 : decode b_MD_count 84 = .ok (.getfield 34, 3) := by decide +kernel
theorem d_MD_count_87 : decode b_MD_count 87 = .ok (.iload_n 3, 1) := by decide +kernel
theorem d_MD_count_88 : decode b_MD_count 88 = .ok (.iaload, 1) := by decide +kernel
theorem d_MD_count_89 : decode b_MD_count 89 = .ok (.iload_n 1, 1) := by decide +kernel
theorem d_MD_count_90 : decode b_MD_count 90 = .ok (.bipush 10, 2) := by decide +kernel
theorem d_MD_count_92 : decode b_MD_count 92 = .ok (.isub, 1) := by decide +kernel
theorem d_MD_count_93 : decode b_MD_count 93 = .ok (.if_icmp .ne 7, 3) := by decide +kernel
theorem d_MD_count_96 : decode b_MD_count 96 = .ok (.iconst 1, 1) := by decide +kernel
theorem d_MD_count_97 : decode b_MD_count 97 = .ok (.goto 4, 3) := by decide +kernel
theorem d_MD_count_100 : decode b_MD_count 100 = .ok (.iconst 0, 1) := by decide +kernel
theorem d_MD_count_101 : decode b_MD_count 101 = .ok (.iadd, 1) := by decide +kernel
theorem d_MD_count_102 : decode b_MD_count 102 = .ok (.istore_n 2, 1) := by decide +kernel
theorem d_MD_count_103 : decode b_MD_count 103 = .ok (.iinc 3 1, 3) := by decide +kernel
theorem d_MD_count_106 : decode b_MD_count 106 = .ok (.goto (-32), 3) := by decide +kernel
theorem d_MD_count_109 : decode b_MD_count 109 = .ok (.iload_n 2, 1) := by decide +kernel
theorem d_MD_count_110 : decode b_MD_count 110 = .ok (.ireturn, 1) := by decide +kernel
theorem d_MD_count_111 : decode b_MD_count 111 = .ok (.iload_n 1, 1) := by decide +kernel
theorem d_MD_count_112 : decode b_MD_count 112 = .ok (.tableswitch 52 0 3 #[32, 37, 42, 47], 32) := by decide +kernel
theorem d_MD_count_144 : decode b_MD_count 144 = .ok (.aload_n 0, 1) := by decide +kernel
theorem d_MD_count_145 : decode b_MD_count 145 = .ok (.getfield 75, 3) := by decide +kernel
theorem d_MD_count_148 : decode b_MD_count 148 = .ok (.ireturn, 1) := by decide +kernel
theorem d_MD_count_149 : decode b_MD_count 149 = .ok (.aload_n 0, 1) := by decide +kernel
theorem d_MD_count_150 : decode b_MD_count 150 = .ok (.getfield 110, 3) := by decide +kernel
theorem d_MD_count_153 : decode b_MD_count 153 = .ok (.ireturn, 1) := by decide +kernel
theorem d_MD_count_154 : decode b_MD_count 154 = .ok (.aload_n 0, 1) := by decide +kernel
theorem d_MD_count_155 : decode b_MD_count 155 = .ok (.getfield 118, 3) := by decide +kernel
theorem d_MD_count_158 : decode b_MD_count 158 = .ok (.ireturn, 1) := by decide +kernel
theorem d_MD_count_159 : decode b_MD_count 159 = .ok (.aload_n 0, 1) := by decide +kernel
theorem d_MD_count_160 : decode b_MD_count 160 = .ok (.getfield 78, 3) := by decide +kernel
theorem d_MD_count_163 : decode b_MD_count 163 = .ok (.ireturn, 1) := by decide +kernel
theorem d_MD_count_164 : decode b_MD_count 164 = .ok (.iconst (-1), 1) := by decide +kernel
theorem d_MD_count_165 : decode b_MD_count 165 = .ok (.ireturn, 1) := by decide +kernel
