theorem d_PB_init_0 : decode b_PB_init 0 = .ok (.aload_n 0, 1) := by decide +kernel
theorem d_PB_init_1 : decode b_PB_init 1 = .ok (.invokespecial 1, 3) := by decide +kernel
theorem d_PB_init_4 : decode b_PB_init 4 = .ok (.aload_n 0, 1) := by decide +kernel
theorem d_PB_init_5 : decode b_PB_init 5 = .ok (.new 7, 3) := by decide +kernel
theorem d_PB_init_8 : decode b_PB_init 8 = .ok (.dup, 1) := by decide +kernel
theorem d_PB_init_9 : decode b_PB_init 9 = .ok (.invokespecial 9, 3) := by decide +kernel
theorem d_PB_init_12 : decode b_PB_init 12 = .ok (.putfield 10, 3) := by decide +kernel
theorem d_PB_init_15 : decode b_PB_init 15 = .ok (.aload_n 0, 1) := by decide +kernel
theorem d_PB_init_16 : decode b_PB_init 16 = .ok (.bipush 6, 2) := by decide +kernel
theorem d_PB_init_18 : decode b_PB_init 18 = .ok (.iconst 4, 1) := by decide +kernel
theorem d_PB_init_19 : decode b_PB_init 19 = .ok (.multianewarray 16 2, 4) := by decide +kernel
theorem d_PB_init_23 : decode b_PB_init 23 = .ok (.putfield 18, 3) := by decide +kernel
theorem d_PB_init_26 : decode b_PB_init 26 = .ok (.aload_n 0, 1) := by decide +kernel
theorem d_PB_init_27 : decode b_PB_init 27 = .ok (.bipush 10, 2) := by decide +kernel
theorem d_PB_init_29 : decode b_PB_init 29 = .ok (.bipush 6, 2) := by decide +kernel
theorem d_PB_init_31 : decode b_PB_init 31 = .ok (.multianewarray 16 2, 4) := by decide +kernel
theorem d_PB_init_35 : decode b_PB_init 35 = .ok (.putfield 21, 3) := by decide +kernel
theorem d_PB_init_38 : decode b_PB_init 38 = .ok (.aload_n 0, 1) := by decide +kernel
theorem d_PB_init_39 : decode b_PB_init 39 = .ok (.bipush 10, 2) := by decide +kernel
theorem d_PB_init_41 : decode b_PB_init 41 = .ok (.newarray .int, 2) := by decide +kernel
theorem d_PB_init_43 : decode b_PB_init 43 = .ok (.putfield 24, 3) := by decide +kernel
theorem d_PB_init_46 : decode b_PB_init 46 = .ok (.aload_n 0, 1) := by decide +kernel
theorem d_PB_init_47 : decode b_PB_init 47 = .ok (.bipush 10, 2) := by decide +kernel
theorem d_PB_init_49 : decode b_PB_init 49 = .ok (.bipush 6, 2) := by decide +kernel
theorem d_PB_init_51 : decode b_PB_init 51 = .ok (.multianewarray 16 2, 4) := by decide +kernel
theorem d_PB_init_55 : decode b_PB_init 55 = .ok (.putfield 28, 3) := by decide +kernel
theorem d_PB_init_58 : decode b_PB_init 58 = .ok (.aload_n 0, 1) := by decide +kernel
theorem d_PB_init_59 : decode b_PB_init 59 = .ok (.bipush 10, 2) := by decide +kernel
theorem d_PB_init_61 : decode b_PB_init 61 = .ok (.bipush 6, 2) := by decide +kernel
theorem d_PB_init_63 : decode b_PB_init 63 = .ok (.multianewarray 16 2, 4) := by decide +kernel
theorem d_PB_init_67 : decode b_PB_init 67 = .ok (.putfield 31, 3) := by decide +kernel
theorem d_PB_init_70 : decode b_PB_init 70 = .ok (.aload_n 0, 1) := by decide +kernel
theorem d_PB_init_71 : decode b_PB_init 71 = .ok (.bipush 10, 2) := by decide +kernel
theorem d_PB_init_73 : decode b_PB_init 73 = .ok (.bipush 6, 2) := by decide +kernel
theorem d_PB_init_75 : decode b_PB_init 75 = .ok (.multianewarray 16 2, 4) := by decide +kernel
theorem d_PB_init_79 : decode b_PB_init 79 = .ok (.putfield 34, 3) := by decide +kernel
theorem d_PB_init_82 : decode b_PB_init 82 = .ok (.aload_n 0, 1) := by decide +kernel
theorem d_PB_init_83 : decode b_PB_init 83 = .ok (.new 37, 3) := by decide +kernel
theorem d_PB_init_86 : decode b_PB_init 86 = .ok (.dup, 1) := by decide +kernel
theorem d_PB_init_87 : decode b_PB_init 87 = .ok (.invokespecial 39, 3) := by decide +kernel
theorem d_PB_init_90 : decode b_PB_init 90 = .ok (.putfield 40, 3) := by decide +kernel
theorem d_PB_init_93 : decode b_PB_init 93 = .ok (.aload_n 0, 1) := by decide +kernel
theorem d_PB_init_94 : decode b_PB_init 94 = .ok (.bipush 10, 2) := by decide +kernel
theorem d_PB_init_96 : decode b_PB_init 96 = .ok (.newarray .long, 2) := by decide +kernel
theorem d_PB_init_98 : decode b_PB_init 98 = .ok (.putfield 44, 3) := by decide +kernel
theorem d_PB_init_101 : decode b_PB_init 101 = .ok (.iconst 0, 1) := by decide +kernel
theorem d_PB_init_102 : decode b_PB_init 102 = .ok (.istore_n 1, 1) := by decide +kernel
theorem d_PB_init_103 : decode b_PB_init 103 = .ok (.iload_n 1, 1) := by decide +kernel
theorem d_PB_init_104 : decode b_PB_init 104 = .ok (.bipush 6, 2) := by decide +kernel
theorem d_PB_init_106 : decode b_PB_init 106 = .ok (.if_icmp .ge 28, 3) := by decide +kernel
theorem d_PB_init_109 : decode b_PB_init 109 = .ok (.aload_n 0, 1) := by decide +kernel
theorem d_PB_init_110 : decode b_PB_init 110 = .ok (.getfield 18, 3) := by decide +kernel
theorem d_PB_init_113 : decode b_PB_init 113 = .ok (.iload_n 1, 1) := by decide +kernel
theorem d_PB_init_114 : decode b_PB_init 114 = .ok (.aaload, 1) := by decide +kernel
theorem d_PB_init_115 : decode b_PB_init 115 = .ok (.iconst 0, 1) := by decide +kernel
theorem d_PB_init_116 : decode b_PB_init 116 = .ok (.bipush 7, 2) := by decide +kernel
theorem d_PB_init_118 : decode b_PB_init 118 = .ok (.iastore, 1) := by decide +kernel
theorem d_PB_init_119 : decode b_PB_init 119 = .ok (.aload_n 0, 1) := by decide +kernel
theorem d_PB_init_120 : decode b_PB_init 120 = .ok (.getfield 18, 3) := by decide +kernel
theorem d_PB_init_123 : decode b_PB_init 123 = .ok (.iload_n 1, 1) := by decide +kernel
theorem d_PB_init_124 : decode b_PB_init 124 = .ok (.aaload, 1) := by decide +kernel
theorem d_PB_init_125 : decode b_PB_init 125 = .ok (.iconst 1, 1) := by decide +kernel
theorem d_PB_init_126 : decode b_PB_init 126 = .ok (.iconst 1, 1) := by decide +kernel
theorem d_PB_init_127 : decode b_PB_init 127 = .ok (.iastore, 1) := by decide +kernel
theorem d_PB_init_128 : decode b_PB_init 128 = .ok (.iinc 1 1, 3) := by decide +kernel
theorem d_PB_init_131 : decode b_PB_init 131 = .ok (.goto (-28), 3) := by decide +kernel
theorem d_PB_init_134 : decode b_PB_init 134 = .ok (.iconst 0, 1) := by decide +kernel
theorem d_PB_init_135 : decode b_PB_init 135 = .ok (.istore_n 1, 1) := by decide +kernel
theorem d_PB_init_136 : decode b_PB_init 136 = .ok (.iload_n 1, 1) := by decide +kernel
theorem d_PB_init_137 : decode b_PB_init 137 = .ok (.bipush 10, 2) := by decide +kernel
theorem d_PB_init_139 : decode b_PB_init 139 = .ok (.if_icmp .ge 29, 3) := by decide +kernel
theorem d_PB_init_142 : decode b_PB_init 142 = .ok (.aload_n 0, 1) := by decide +kernel
theorem d_PB_init_143 : decode b_PB_init 143 = .ok (.getfield 31, 3) := by decide +kernel
theorem d_PB_init_146 : decode b_PB_init 146 = .ok (.iload_n 1, 1) := by decide +kernel
theorem d_PB_init_147 : decode b_PB_init 147 = .ok (.aaload, 1) := by decide +kernel
theorem d_PB_init_148 : decode b_PB_init 148 = .ok (.iconst 1, 1) := by decide +kernel
theorem d_PB_init_149 : decode b_PB_init 149 = .ok (.invokestatic 48, 3) := by decide +kernel
theorem d_PB_init_152 : decode b_PB_init 152 = .ok (.aload_n 0, 1) := by decide +kernel
theorem d_PB_init_153 : decode b_PB_init 153 = .ok (.getfield 34, 3) := by decide +kernel
theorem d_PB_init_156 : decode b_PB_init 156 = .ok (.iload_n 1, 1) := by decide +kernel
theorem d_PB_init_157 : decode b_PB_init 157 = .ok (.aaload, 1) := by decide +kernel
theorem d_PB_init_158 : decode b_PB_init 158 = .ok (.iconst 1, 1) := by decide +kernel
theorem d_PB_init_159 : decode b_PB_init 159 = .ok (.invokestatic 48, 3) := by decide +kernel
theorem d_PB_init_162 : decode b_PB_init 162 = .ok (.iinc 1 1, 3) := by decide +kernel
theorem d_PB_init_165 : decode b_PB_init 165 = .ok (.goto (-29), 3) := by decide +kernel
theorem d_PB_init_168 : decode b_PB_init 168 = .ok (.return_, 1) := by decide +kernel
theorem d_PB_sign_0 : decode b_PB_sign 0 = .ok (.aload_n 0, 1) := by decide +kernel
theorem d_PB_sign_1 : decode b_PB_sign 1 = .ok (.getfield 10, 3) := by decide +kernel
theorem d_PB_sign_4 : decode b_PB_sign 4 = .ok (.iload_n 1, 1) := by decide +kernel
theorem d_PB_sign_5 : decode b_PB_sign 5 = .ok (.invokevirtual 54, 3) := by decide +kernel
theorem d_PB_sign_8 : decode b_PB_sign 8 = .ok (.ireturn, 1) := by decide +kernel
theorem d_PB_read_0 : decode b_PB_read 0 = .ok (.aload_n 0, 1) := by decide +kernel
theorem d_PB_read_1 : decode b_PB_read 1 = .ok (.getfield 10, 3) := by decide +kernel
theorem d_PB_read_4 : decode b_PB_read 4 = .ok (.invokevirtual 58, 3) := by decide +kernel
theorem d_PB_read_7 : decode b_PB_read 7 = .ok (.istore_n 1, 1) := by decide +kernel
theorem d_PB_read_8 : decode b_PB_read 8 = .ok (.iload_n 1, 1) := by decide +kernel
theorem d_PB_read_9 : decode b_PB_read 9 = .ok (.ifCond .le 7, 3) := by decide +kernel
theorem d_PB_read_12 : decode b_PB_read 12 = .ok (.aload_n 0, 1) := by decide +kernel
theorem d_PB_read_13 : decode b_PB_read 13 = .ok (.invokevirtual 62, 3) := by decide +kernel
theorem d_PB_read_16 : decode b_PB_read 16 = .ok (.aload_n 0, 1) := by decide +kernel
theorem d_PB_read_17 : decode b_PB_read 17 = .ok (.getfield 10, 3) := by decide +kernel
theorem d_PB_read_20 : decode b_PB_read 20 = .ok (.invokevirtual 65, 3) := by decide +kernel
theorem d_PB_read_23 : decode b_PB_read 23 = .ok (.iload_n 1, 1) := by decide +kernel
theorem d_PB_read_24 : decode b_PB_read 24 = .ok (.ireturn, 1) := by decide +kernel
theorem d_PB_tariff_0 : decode b_PB_tariff 0 = .ok (.iload_n 1, 1) := by decide +kernel
theorem d_PB_tariff_1 : decode b_PB_tariff 1 = .ok (.invokestatic 68, 3) := by decide +kernel
theorem d_PB_tariff_4 : decode b_PB_tariff 4 = .ok (.ifCond .eq 12, 3) := by decide +kernel
theorem d_PB_tariff_7 : decode b_PB_tariff 7 = .ok (.iload_n 2, 1) := by decide +kernel
theorem d_PB_tariff_8 : decode b_PB_tariff 8 = .ok (.ifCond .lt 8, 3) := by decide +kernel
theorem d_PB_tariff_11 : decode b_PB_tariff 11 = .ok (.iload_n 2, 1) := by decide +kernel
theorem d_PB_tariff_12 : decode b_PB_tariff 12 = .ok (.iconst 4, 1) := by decide +kernel
theorem d_PB_tariff_13 : decode b_PB_tariff 13 = .ok (.if_icmp .lt 13, 3) := by decide +kernel
theorem d_PB_tariff_16 : decode b_PB_tariff 16 = .ok (.new 71, 3) := by decide +kernel
theorem d_PB_tariff_19 : decode b_PB_tariff 19 = .ok (.dup, 1) := by decide +kernel
theorem d_PB_tariff_20 : decode b_PB_tariff 20 = .ok (.ldc 73, 2) := by decide +kernel
theorem d_PB_tariff_22 : decode b_PB_tariff 22 = .ok (.invokespecial 75, 3) := by decide +kernel
theorem d_PB_tariff_25 : decode b_PB_tariff 25 = .ok (.athrow, 1) := by decide +kernel
theorem d_PB_tariff_26 : decode b_PB_tariff 26 = .ok (.aload_n 0, 1) := by decide +kernel
theorem d_PB_tariff_27 : decode b_PB_tariff 27 = .ok (.iload_n 1, 1) := by decide +kernel
theorem d_PB_tariff_28 : decode b_PB_tariff 28 = .ok (.invokevirtual 78, 3) := by decide +kernel
theorem d_PB_tariff_31 : decode b_PB_tariff 31 = .ok (.ifCond .eq 14, 3) := by decide +kernel
theorem d_PB_tariff_34 : decode b_PB_tariff 34 = .ok (.aload_n 0, 1) := by decide +kernel
theorem d_PB_tariff_35 : decode b_PB_tariff 35 = .ok (.getfield 18, 3) := by decide +kernel
theorem d_PB_tariff_38 : decode b_PB_tariff 38 = .ok (.iload_n 1, 1) := by decide +kernel
theorem d_PB_tariff_39 : decode b_PB_tariff 39 = .ok (.aaload, 1) := by decide +kernel
theorem d_PB_tariff_40 : decode b_PB_tariff 40 = .ok (.iload_n 2, 1) := by decide +kernel
theorem d_PB_tariff_41 : decode b_PB_tariff 41 = .ok (.iaload, 1) := by decide +kernel
theorem d_PB_tariff_42 : decode b_PB_tariff 42 = .ok (.goto 4, 3) := by decide +kernel
theorem d_PB_tariff_45 : decode b_PB_tariff 45 = .ok (.iconst (-1), 1) := by decide +kernel
theorem d_PB_tariff_46 : decode b_PB_tariff 46 = .ok (.ireturn, 1) := by decide +kernel
theorem d_PB_event_0 : decode b_PB_event 0 = .ok (.iload_n 1, 1) := by decide +kernel
theorem d_PB_event_1 : decode b_PB_event 1 = .ok (.invokestatic 81, 3) := by decide +kernel
theorem d_PB_event_4 : decode b_PB_event 4 = .ok (.ifCond .eq 21, 3) := by decide +kernel
theorem d_PB_event_7 : decode b_PB_event 7 = .ok (.iload_n 2, 1) := by decide +kernel
theorem d_PB_event_8 : decode b_PB_event 8 = .ok (.invokestatic 68, 3) := by decide +kernel
theorem d_PB_event_11 : decode b_PB_event 11 = .ok (.ifCond .eq 14, 3) := by decide +kernel
theorem d_PB_event_14 : decode b_PB_event 14 = .ok (.iload_n 3, 1) := by decide +kernel
theorem d_PB_event_15 : decode b_PB_event 15 = .ok (.iconst 1, 1) := by decide +kernel
theorem d_PB_event_16 : decode b_PB_event 16 = .ok (.if_icmp .lt 9, 3) := by decide +kernel
theorem d_PB_event_19 : decode b_PB_event 19 = .ok (.iload_n 3, 1) := by decide +kernel
theorem d_PB_event_20 : decode b_PB_event 20 = .ok (.ldc 84, 2) := by decide +kernel
theorem d_PB_event_22 : decode b_PB_event 22 = .ok (.if_icmp .le 13, 3) := by decide +kernel
theorem d_PB_event_25 : decode b_PB_event 25 = .ok (.new 71, 3) := by decide +kernel
theorem d_PB_event_28 : decode b_PB_event 28 = .ok (.dup, 1) := by decide +kernel
theorem d_PB_event_29 : decode b_PB_event 29 = .ok (.ldc 85, 2) := by decide +kernel
theorem d_PB_event_31 : decode b_PB_event 31 = .ok (.invokespecial 75, 3) := by decide +kernel
theorem d_PB_event_34 : decode b_PB_event 34 = .ok (.athrow, 1) := by decide +kernel
theorem d_PB_event_35 : decode b_PB_event 35 = .ok (.aload_n 0, 1) := by decide +kernel
theorem d_PB_event_36 : decode b_PB_event 36 = .ok (.getfield 87, 3) := by decide +kernel
theorem d_PB_event_39 : decode b_PB_event 39 = .ok (.bipush 100, 2) := by decide +kernel
theorem d_PB_event_41 : decode b_PB_event 41 = .ok (.if_icmp .lt 13, 3) := by decide +kernel
theorem d_PB_event_44 : decode b_PB_event 44 = .ok (.new 91, 3) := by decide +kernel
theorem d_PB_event_47 : decode b_PB_event 47 = .ok (.dup, 1) := by decide +kernel
theorem d_PB_event_48 : decode b_PB_event 48 = .ok (.ldc 93, 2) := by decide +kernel
theorem d_PB_event_50 : decode b_PB_event 50 = .ok (.invokespecial 95, 3) := by decide +kernel
theorem d_PB_event_53 : decode b_PB_event 53 = .ok (.athrow, 1) := by decide +kernel
theorem d_PB_event_54 : decode b_PB_event 54 = .ok (.iload_n 3, 1) := by decide +kernel
theorem d_PB_event_55 : decode b_PB_event 55 = .ok (.getstatic 96, 3) := by decide +kernel
theorem d_PB_event_58 : decode b_PB_event 58 = .ok (.iload_n 2, 1) := by decide +kernel
theorem d_PB_event_59 : decode b_PB_event 59 = .ok (.iaload, 1) := by decide +kernel
theorem d_PB_event_60 : decode b_PB_event 60 = .ok (.invokestatic 99, 3) := by decide +kernel
theorem d_PB_event_63 : decode b_PB_event 63 = .ok (.istore 4, 2) := by decide +kernel
theorem d_PB_event_65 : decode b_PB_event 65 = .ok (.aload_n 0, 1) := by decide +kernel
theorem d_PB_event_66 : decode b_PB_event 66 = .ok (.getfield 21, 3) := by decide +kernel
theorem d_PB_event_69 : decode b_PB_event 69 = .ok (.iload_n 1, 1) := by decide +kernel
theorem d_PB_event_70 : decode b_PB_event 70 = .ok (.aaload, 1) := by decide +kernel
theorem d_PB_event_71 : decode b_PB_event 71 = .ok (.iload_n 2, 1) := by decide +kernel
theorem d_PB_event_72 : decode b_PB_event 72 = .ok (.dup2, 1) := by decide +kernel
theorem d_PB_event_73 : decode b_PB_event 73 = .ok (.iaload, 1) := by decide +kernel
theorem d_PB_event_74 : decode b_PB_event 74 = .ok (.iload 4, 2) := by decide +kernel
theorem d_PB_event_76 : decode b_PB_event 76 = .ok (.iadd, 1) := by decide +kernel
theorem d_PB_event_77 : decode b_PB_event 77 = .ok (.iastore, 1) := by decide +kernel
theorem d_PB_event_78 : decode b_PB_event 78 = .ok (.aload_n 0, 1) := by decide +kernel
theorem d_PB_event_79 : decode b_PB_event 79 = .ok (.getfield 24, 3) := by decide +kernel
theorem d_PB_event_82 : decode b_PB_event 82 = .ok (.iload_n 1, 1) := by decide +kernel
theorem d_PB_event_83 : decode b_PB_event 83 = .ok (.dup2, 1) := by decide +kernel
theorem d_PB_event_84 : decode b_PB_event 84 = .ok (.iaload, 1) := by decide +kernel
theorem d_PB_event_85 : decode b_PB_event 85 = .ok (.iconst 1, 1) := by decide +kernel
theorem d_PB_event_86 : decode b_PB_event 86 = .ok (.iadd, 1) := by decide +kernel
theorem d_PB_event_87 : decode b_PB_event 87 = .ok (.iastore, 1) := by decide +kernel
theorem d_PB_event_88 : decode b_PB_event 88 = .ok (.aload_n 0, 1) := by decide +kernel
theorem d_PB_event_89 : decode b_PB_event 89 = .ok (.dup, 1) := by decide +kernel
theorem d_PB_event_90 : decode b_PB_event 90 = .ok (.getfield 87, 3) := by decide +kernel
theorem d_PB_event_93 : decode b_PB_event 93 = .ok (.iconst 1, 1) := by decide +kernel
theorem d_PB_event_94 : decode b_PB_event 94 = .ok (.iadd, 1) := by decide +kernel
theorem d_PB_event_95 : decode b_PB_event 95 = .ok (.putfield 87, 3) := by decide +kernel
theorem d_PB_event_98 : decode b_PB_event 98 = .ok (.iload 4, 2) := by decide +kernel
theorem d_PB_event_100 : decode b_PB_event 100 = .ok (.ireturn, 1) := by decide +kernel
theorem d_PB_discount_0 : decode b_PB_discount 0 = .ok (.iload_n 1, 1) := by decide +kernel
theorem d_PB_discount_1 : decode b_PB_discount 1 = .ok (.invokestatic 81, 3) := by decide +kernel
theorem d_PB_discount_4 : decode b_PB_discount 4 = .ok (.ifCond .eq 33, 3) := by decide +kernel
theorem d_PB_discount_7 : decode b_PB_discount 7 = .ok (.iload_n 2, 1) := by decide +kernel
theorem d_PB_discount_8 : decode b_PB_discount 8 = .ok (.invokestatic 68, 3) := by decide +kernel
theorem d_PB_discount_11 : decode b_PB_discount 11 = .ok (.ifCond .eq 26, 3) := by decide +kernel
theorem d_PB_discount_14 : decode b_PB_discount 14 = .ok (.iload 4, 2) := by decide +kernel
theorem d_PB_discount_16 : decode b_PB_discount 16 = .ok (.iconst 1, 1) := by decide +kernel
theorem d_PB_discount_17 : decode b_PB_discount 17 = .ok (.if_icmp .lt 20, 3) := by decide +kernel
theorem d_PB_discount_20 : decode b_PB_discount 20 = .ok (.iload 4, 2) := by decide +kernel
theorem d_PB_discount_22 : decode b_PB_discount 22 = .ok (.bipush 100, 2) := by decide +kernel
theorem d_PB_discount_24 : decode b_PB_discount 24 = .ok (.if_icmp .gt 13, 3) := by decide +kernel
theorem d_PB_discount_27 : decode b_PB_discount 27 = .ok (.iload_n 3, 1) := by decide +kernel
theorem d_PB_discount_28 : decode b_PB_discount 28 = .ok (.ifCond .lt 9, 3) := by decide +kernel
theorem d_PB_discount_31 : decode b_PB_discount 31 = .ok (.iload_n 3, 1) := by decide +kernel
theorem d_PB_discount_32 : decode b_PB_discount 32 = .ok (.iload 4, 2) := by decide +kernel
theorem d_PB_discount_34 : decode b_PB_discount 34 = .ok (.if_icmp .le 5, 3) := by decide +kernel
theorem d_PB_discount_37 : decode b_PB_discount 37 = .ok (.iconst 0, 1) := by decide +kernel
theorem d_PB_discount_38 : decode b_PB_discount 38 = .ok (.ireturn, 1) := by decide +kernel
theorem d_PB_discount_39 : decode b_PB_discount 39 = .ok (.aload_n 0, 1) := by decide +kernel
theorem d_PB_discount_40 : decode b_PB_discount 40 = .ok (.getfield 28, 3) := by decide +kernel
theorem d_PB_discount_43 : decode b_PB_discount 43 = .ok (.iload_n 1, 1) := by decide +kernel
theorem d_PB_discount_44 : decode b_PB_discount 44 = .ok (.aaload, 1) := by decide +kernel
theorem d_PB_discount_45 : decode b_PB_discount 45 = .ok (.iload_n 2, 1) := by decide +kernel
theorem d_PB_discount_46 : decode b_PB_discount 46 = .ok (.iaload, 1) := by decide +kernel
theorem d_PB_discount_47 : decode b_PB_discount 47 = .ok (.iconst 3, 1) := by decide +kernel
theorem d_PB_discount_48 : decode b_PB_discount 48 = .ok (.if_icmp .lt 5, 3) := by decide +kernel
theorem d_PB_discount_51 : decode b_PB_discount 51 = .ok (.iconst 0, 1) := by decide +kernel
theorem d_PB_discount_52 : decode b_PB_discount 52 = .ok (.ireturn, 1) := by decide +kernel
theorem d_PB_discount_53 : decode b_PB_discount 53 = .ok (.aload_n 0, 1) := by decide +kernel
theorem d_PB_discount_54 : decode b_PB_discount 54 = .ok (.getfield 28, 3) := by decide +kernel
theorem d_PB_discount_57 : decode b_PB_discount 57 = .ok (.iload_n 1, 1) := by decide +kernel
theorem d_PB_discount_58 : decode b_PB_discount 58 = .ok (.aaload, 1) := by decide +kernel
theorem d_PB_discount_59 : decode b_PB_discount 59 = .ok (.iload_n 2, 1) := by decide +kernel
theorem d_PB_discount_60 : decode b_PB_discount 60 = .ok (.dup2, 1) := by decide +kernel
theorem d_PB_discount_61 : decode b_PB_discount 61 = .ok (.iaload, 1) := by decide +kernel
theorem d_PB_discount_62 : decode b_PB_discount 62 = .ok (.iconst 1, 1) := by decide +kernel
theorem d_PB_discount_63 : decode b_PB_discount 63 = .ok (.iadd, 1) := by decide +kernel
theorem d_PB_discount_64 : decode b_PB_discount 64 = .ok (.iastore, 1) := by decide +kernel
theorem d_PB_discount_65 : decode b_PB_discount 65 = .ok (.aload_n 0, 1) := by decide +kernel
theorem d_PB_discount_66 : decode b_PB_discount 66 = .ok (.getfield 31, 3) := by decide +kernel
theorem d_PB_discount_69 : decode b_PB_discount 69 = .ok (.iload_n 1, 1) := by decide +kernel
theorem d_PB_discount_70 : decode b_PB_discount 70 = .ok (.aaload, 1) := by decide +kernel
theorem d_PB_discount_71 : decode b_PB_discount 71 = .ok (.iload_n 2, 1) := by decide +kernel
theorem d_PB_discount_72 : decode b_PB_discount 72 = .ok (.dup2, 1) := by decide +kernel
theorem d_PB_discount_73 : decode b_PB_discount 73 = .ok (.iaload, 1) := by decide +kernel
theorem d_PB_discount_74 : decode b_PB_discount 74 = .ok (.iload 4, 2) := by decide +kernel
theorem d_PB_discount_76 : decode b_PB_discount 76 = .ok (.iload_n 3, 1) := by decide +kernel
theorem d_PB_discount_77 : decode b_PB_discount 77 = .ok (.isub, 1) := by decide +kernel
theorem d_PB_discount_78 : decode b_PB_discount 78 = .ok (.imul, 1) := by decide +kernel
theorem d_PB_discount_79 : decode b_PB_discount 79 = .ok (.iastore, 1) := by decide +kernel
theorem d_PB_discount_80 : decode b_PB_discount 80 = .ok (.aload_n 0, 1) := by decide +kernel
theorem d_PB_discount_81 : decode b_PB_discount 81 = .ok (.getfield 34, 3) := by decide +kernel
theorem d_PB_discount_84 : decode b_PB_discount 84 = .ok (.iload_n 1, 1) := by decide +kernel
theorem d_PB_discount_85 : decode b_PB_discount 85 = .ok (.aaload, 1) := by decide +kernel
theorem d_PB_discount_86 : decode b_PB_discount 86 = .ok (.iload_n 2, 1) := by decide +kernel
theorem d_PB_discount_87 : decode b_PB_discount 87 = .ok (.dup2, 1) := by decide +kernel
theorem d_PB_discount_88 : decode b_PB_discount 88 = .ok (.iaload, 1) := by decide +kernel
theorem d_PB_discount_89 : decode b_PB_discount 89 = .ok (.iload 4, 2) := by decide +kernel
theorem d_PB_discount_91 : decode b_PB_discount 91 = .ok (.imul, 1) := by decide +kernel
theorem d_PB_discount_92 : decode b_PB_discount 92 = .ok (.iastore, 1) := by decide +kernel
theorem d_PB_discount_93 : decode b_PB_discount 93 = .ok (.iconst 1, 1) := by decide +kernel
theorem d_PB_discount_94 : decode b_PB_discount 94 = .ok (.ireturn, 1) := by decide +kernel
theorem d_PB_bill_0 : decode b_PB_bill 0 = .ok (.iload_n 1, 1) := by decide +kernel
theorem d_PB_bill_1 : decode b_PB_bill 1 = .ok (.invokestatic 81, 3) := by decide +kernel
theorem d_PB_bill_4 : decode b_PB_bill 4 = .ok (.ifCond .ne 13, 3) := by decide +kernel
theorem d_PB_bill_7 : decode b_PB_bill 7 = .ok (.new 71, 3) := by decide +kernel
theorem d_PB_bill_10 : decode b_PB_bill 10 = .ok (.dup, 1) := by decide +kernel
theorem d_PB_bill_11 : decode b_PB_bill 11 = .ok (.ldc 103, 2) := by decide +kernel
theorem d_PB_bill_13 : decode b_PB_bill 13 = .ok (.invokespecial 75, 3) := by decide +kernel
theorem d_PB_bill_16 : decode b_PB_bill 16 = .ok (.athrow, 1) := by decide +kernel
theorem d_PB_bill_17 : decode b_PB_bill 17 = .ok (.aload_n 0, 1) := by decide +kernel
theorem d_PB_bill_18 : decode b_PB_bill 18 = .ok (.iload_n 1, 1) := by decide +kernel
theorem d_PB_bill_19 : decode b_PB_bill 19 = .ok (.invokevirtual 105, 3) := by decide +kernel
theorem d_PB_bill_22 : decode b_PB_bill 22 = .ok (.istore_n 2, 1) := by decide +kernel
theorem d_PB_bill_23 : decode b_PB_bill 23 = .ok (.aload_n 0, 1) := by decide +kernel
theorem d_PB_bill_24 : decode b_PB_bill 24 = .ok (.getfield 40, 3) := by decide +kernel
theorem d_PB_bill_27 : decode b_PB_bill 27 = .ok (.invokevirtual 109, 3) := by decide +kernel
theorem d_PB_bill_30 : decode b_PB_bill 30 = .ok (.iload_n 2, 1) := by decide +kernel
theorem d_PB_bill_31 : decode b_PB_bill 31 = .ok (.iadd, 1) := by decide +kernel
theorem d_PB_bill_32 : decode b_PB_bill 32 = .ok (.sipush 200, 3) := by decide +kernel
theorem d_PB_bill_35 : decode b_PB_bill 35 = .ok (.if_icmp .le 13, 3) := by decide +kernel
theorem d_PB_bill_38 : decode b_PB_bill 38 = .ok (.new 91, 3) := by decide +kernel
theorem d_PB_bill_41 : decode b_PB_bill 41 = .ok (.dup, 1) := by decide +kernel
theorem d_PB_bill_42 : decode b_PB_bill 42 = .ok (.ldc 112, 2) := by decide +kernel
theorem d_PB_bill_44 : decode b_PB_bill 44 = .ok (.invokespecial 95, 3) := by decide +kernel
theorem d_PB_bill_47 : decode b_PB_bill 47 = .ok (.athrow, 1) := by decide +kernel
theorem d_PB_bill_48 : decode b_PB_bill 48 = .ok (.iconst 0, 1) := by decide +kernel
theorem d_PB_bill_49 : decode b_PB_bill 49 = .ok (.istore_n 3, 1) := by decide +kernel
theorem d_PB_bill_50 : decode b_PB_bill 50 = .ok (.iload_n 3, 1) := by decide +kernel
theorem d_PB_bill_51 : decode b_PB_bill 51 = .ok (.bipush 6, 2) := by decide +kernel
theorem d_PB_bill_53 : decode b_PB_bill 53 = .ok (.if_icmp .ge 34, 3) := by decide +kernel
theorem d_PB_bill_56 : decode b_PB_bill 56 = .ok (.aload_n 0, 1) := by decide +kernel
theorem d_PB_bill_57 : decode b_PB_bill 57 = .ok (.getfield 21, 3) := by decide +kernel
theorem d_PB_bill_60 : decode b_PB_bill 60 = .ok (.iload_n 1, 1) := by decide +kernel
theorem d_PB_bill_61 : decode b_PB_bill 61 = .ok (.aaload, 1) := by decide +kernel
theorem d_PB_bill_62 : decode b_PB_bill 62 = .ok (.iload_n 3, 1) := by decide +kernel
theorem d_PB_bill_63 : decode b_PB_bill 63 = .ok (.iaload, 1) := by decide +kernel
theorem d_PB_bill_64 : decode b_PB_bill 64 = .ok (.ifCond .le 17, 3) := by decide +kernel
theorem d_PB_bill_67 : decode b_PB_bill 67 = .ok (.aload_n 0, 1) := by decide +kernel
theorem d_PB_bill_68 : decode b_PB_bill 68 = .ok (.getfield 40, 3) := by decide +kernel
theorem d_PB_bill_71 : decode b_PB_bill 71 = .ok (.aload_n 0, 1) := by decide +kernel
theorem d_PB_bill_72 : decode b_PB_bill 72 = .ok (.iload_n 1, 1) := by decide +kernel
theorem d_PB_bill_73 : decode b_PB_bill 73 = .ok (.iload_n 3, 1) := by decide +kernel
theorem d_PB_bill_74 : decode b_PB_bill 74 = .ok (.invokevirtual 114, 3) := by decide +kernel
theorem d_PB_bill_77 : decode b_PB_bill 77 = .ok (.invokevirtual 118, 3) := by decide +kernel
theorem d_PB_bill_80 : decode b_PB_bill 80 = .ok (.pop, 1) := by decide +kernel
theorem d_PB_bill_81 : decode b_PB_bill 81 = .ok (.iinc 3 1, 3) := by decide +kernel
theorem d_PB_bill_84 : decode b_PB_bill 84 = .ok (.goto (-34), 3) := by decide +kernel
theorem d_PB_bill_87 : decode b_PB_bill 87 = .ok (.aload_n 0, 1) := by decide +kernel
theorem d_PB_bill_88 : decode b_PB_bill 88 = .ok (.iload_n 1, 1) := by decide +kernel
theorem d_PB_bill_89 : decode b_PB_bill 89 = .ok (.invokevirtual 122, 3) := by decide +kernel
theorem d_PB_bill_92 : decode b_PB_bill 92 = .ok (.iload_n 2, 1) := by decide +kernel
theorem d_PB_bill_93 : decode b_PB_bill 93 = .ok (.ireturn, 1) := by decide +kernel
theorem d_PB_correct_0 : decode b_PB_correct 0 = .ok (.aload_n 0, 1) := by decide +kernel
theorem d_PB_correct_1 : decode b_PB_correct 1 = .ok (.iload_n 1, 1) := by decide +kernel
theorem d_PB_correct_2 : decode b_PB_correct 2 = .ok (.invokevirtual 126, 3) := by decide +kernel
theorem d_PB_correct_5 : decode b_PB_correct 5 = .ok (.ifCond .eq 17, 3) := by decide +kernel
theorem d_PB_correct_8 : decode b_PB_correct 8 = .ok (.lload_n 2, 1) := by decide +kernel
theorem d_PB_correct_9 : decode b_PB_correct 9 = .ok (.lconst 0, 1) := by decide +kernel
theorem d_PB_correct_10 : decode b_PB_correct 10 = .ok (.lcmp, 1) := by decide +kernel
theorem d_PB_correct_11 : decode b_PB_correct 11 = .ok (.ifCond .lt 11, 3) := by decide +kernel
theorem d_PB_correct_14 : decode b_PB_correct 14 = .ok (.lload_n 2, 1) := by decide +kernel
theorem d_PB_correct_15 : decode b_PB_correct 15 = .ok (.ldc2_w 129, 3) := by decide +kernel
theorem d_PB_correct_18 : decode b_PB_correct 18 = .ok (.lcmp, 1) := by decide +kernel
theorem d_PB_correct_19 : decode b_PB_correct 19 = .ok (.ifCond .le 13, 3) := by decide +kernel
theorem d_PB_correct_22 : decode b_PB_correct 22 = .ok (.new 71, 3) := by decide +kernel
theorem d_PB_correct_25 : decode b_PB_correct 25 = .ok (.dup, 1) := by decide +kernel
theorem d_PB_correct_26 : decode b_PB_correct 26 = .ok (.ldc 131, 2) := by decide +kernel
theorem d_PB_correct_28 : decode b_PB_correct 28 = .ok (.invokespecial 75, 3) := by decide +kernel
theorem d_PB_correct_31 : decode b_PB_correct 31 = .ok (.athrow, 1) := by decide +kernel
theorem d_PB_correct_32 : decode b_PB_correct 32 = .ok (.aload_n 0, 1) := by decide +kernel
theorem d_PB_correct_33 : decode b_PB_correct 33 = .ok (.getfield 40, 3) := by decide +kernel
theorem d_PB_correct_36 : decode b_PB_correct 36 = .ok (.invokevirtual 109, 3) := by decide +kernel
theorem d_PB_correct_39 : decode b_PB_correct 39 = .ok (.sipush 200, 3) := by decide +kernel
theorem d_PB_correct_42 : decode b_PB_correct 42 = .ok (.if_icmp .lt 13, 3) := by decide +kernel
theorem d_PB_correct_45 : decode b_PB_correct 45 = .ok (.new 91, 3) := by decide +kernel
theorem d_PB_correct_48 : decode b_PB_correct 48 = .ok (.dup, 1) := by decide +kernel
theorem d_PB_correct_49 : decode b_PB_correct 49 = .ok (.ldc 133, 2) := by decide +kernel
theorem d_PB_correct_51 : decode b_PB_correct 51 = .ok (.invokespecial 95, 3) := by decide +kernel
theorem d_PB_correct_54 : decode b_PB_correct 54 = .ok (.athrow, 1) := by decide +kernel
theorem d_PB_correct_55 : decode b_PB_correct 55 = .ok (.aload_n 0, 1) := by decide +kernel
theorem d_PB_correct_56 : decode b_PB_correct 56 = .ok (.getfield 40, 3) := by decide +kernel
theorem d_PB_correct_59 : decode b_PB_correct 59 = .ok (.iload_n 1, 1) := by decide +kernel
theorem d_PB_correct_60 : decode b_PB_correct 60 = .ok (.invokevirtual 135, 3) := by decide +kernel
theorem d_PB_correct_63 : decode b_PB_correct 63 = .ok (.checkcast 139, 3) := by decide +kernel
theorem d_PB_correct_66 : decode b_PB_correct 66 = .ok (.astore 4, 2) := by decide +kernel
theorem d_PB_correct_68 : decode b_PB_correct 68 = .ok (.aload 4, 2) := by decide +kernel
theorem d_PB_correct_70 : decode b_PB_correct 70 = .ok (.invokevirtual 141, 3) := by decide +kernel
theorem d_PB_correct_73 : decode b_PB_correct 73 = .ok (.ifCond .ne 13, 3) := by decide +kernel
theorem d_PB_correct_76 : decode b_PB_correct 76 = .ok (.aload 4, 2) := by decide +kernel
theorem d_PB_correct_78 : decode b_PB_correct 78 = .ok (.getfield 145, 3) := by decide +kernel
theorem d_PB_correct_81 : decode b_PB_correct 81 = .ok (.lload_n 2, 1) := by decide +kernel
theorem d_PB_correct_82 : decode b_PB_correct 82 = .ok (.lcmp, 1) := by decide +kernel
theorem d_PB_correct_83 : decode b_PB_correct 83 = .ok (.ifCond .ne 5, 3) := by decide +kernel
theorem d_PB_correct_86 : decode b_PB_correct 86 = .ok (.iconst (-1), 1) := by decide +kernel
theorem d_PB_correct_87 : decode b_PB_correct 87 = .ok (.ireturn, 1) := by decide +kernel
theorem d_PB_correct_88 : decode b_PB_correct 88 = .ok (.new 139, 3) := by decide +kernel
theorem d_PB_correct_91 : decode b_PB_correct 91 = .ok (.dup, 1) := by decide +kernel
theorem d_PB_correct_92 : decode b_PB_correct 92 = .ok (.aload 4, 2) := by decide +kernel
theorem d_PB_correct_94 : decode b_PB_correct 94 = .ok (.getfield 149, 3) := by decide +kernel
theorem d_PB_correct_97 : decode b_PB_correct 97 = .ok (.aload 4, 2) := by decide +kernel
theorem d_PB_correct_99 : decode b_PB_correct 99 = .ok (.getfield 152, 3) := by decide +kernel
theorem d_PB_correct_102 : decode b_PB_correct 102 = .ok (.iconst 0, 1) := by decide +kernel
theorem d_PB_correct_103 : decode b_PB_correct 103 = .ok (.iconst 0, 1) := by decide +kernel
theorem d_PB_correct_104 : decode b_PB_correct 104 = .ok (.lload_n 2, 1) := by decide +kernel
theorem d_PB_correct_105 : decode b_PB_correct 105 = .ok (.aload 4, 2) := by decide +kernel
theorem d_PB_correct_107 : decode b_PB_correct 107 = .ok (.getfield 145, 3) := by decide +kernel
theorem d_PB_correct_110 : decode b_PB_correct 110 = .ok (.lsub, 1) := by decide +kernel
theorem d_PB_correct_111 : decode b_PB_correct 111 = .ok (.iload_n 1, 1) := by decide +kernel
theorem d_PB_correct_112 : decode b_PB_correct 112 = .ok (.iconst 0, 1) := by decide +kernel
theorem d_PB_correct_113 : decode b_PB_correct 113 = .ok (.invokespecial 155, 3) := by decide +kernel
theorem d_PB_correct_116 : decode b_PB_correct 116 = .ok (.astore 5, 2) := by decide +kernel
theorem d_PB_correct_118 : decode b_PB_correct 118 = .ok (.aload 5, 2) := by decide +kernel
theorem d_PB_correct_120 : decode b_PB_correct 120 = .ok (.aload 4, 2) := by decide +kernel
theorem d_PB_correct_122 : decode b_PB_correct 122 = .ok (.getfield 158, 3) := by decide +kernel
theorem d_PB_correct_125 : decode b_PB_correct 125 = .ok (.putfield 158, 3) := by decide +kernel
theorem d_PB_correct_128 : decode b_PB_correct 128 = .ok (.aload 4, 2) := by decide +kernel
theorem d_PB_correct_130 : decode b_PB_correct 130 = .ok (.lload_n 2, 1) := by decide +kernel
theorem d_PB_correct_131 : decode b_PB_correct 131 = .ok (.putfield 145, 3) := by decide +kernel
theorem d_PB_correct_134 : decode b_PB_correct 134 = .ok (.aload_n 0, 1) := by decide +kernel
theorem d_PB_correct_135 : decode b_PB_correct 135 = .ok (.getfield 40, 3) := by decide +kernel
theorem d_PB_correct_138 : decode b_PB_correct 138 = .ok (.aload 5, 2) := by decide +kernel
theorem d_PB_correct_140 : decode b_PB_correct 140 = .ok (.invokevirtual 118, 3) := by decide +kernel
theorem d_PB_correct_143 : decode b_PB_correct 143 = .ok (.pop, 1) := by decide +kernel
theorem d_PB_correct_144 : decode b_PB_correct 144 = .ok (.aload_n 0, 1) := by decide +kernel
theorem d_PB_correct_145 : decode b_PB_correct 145 = .ok (.getfield 40, 3) := by decide +kernel
theorem d_PB_correct_148 : decode b_PB_correct 148 = .ok (.invokevirtual 109, 3) := by decide +kernel
theorem d_PB_correct_151 : decode b_PB_correct 151 = .ok (.iconst 1, 1) := by decide +kernel
theorem d_PB_correct_152 : decode b_PB_correct 152 = .ok (.isub, 1) := by decide +kernel
theorem d_PB_correct_153 : decode b_PB_correct 153 = .ok (.ireturn, 1) := by decide +kernel
theorem d_PB_dispute_0 : decode b_PB_dispute 0 = .ok (.aload_n 0, 1) := by decide +kernel
theorem d_PB_dispute_1 : decode b_PB_dispute 1 = .ok (.iload_n 1, 1) := by decide +kernel
theorem d_PB_dispute_2 : decode b_PB_dispute 2 = .ok (.invokevirtual 126, 3) := by decide +kernel
theorem d_PB_dispute_5 : decode b_PB_dispute 5 = .ok (.ifCond .ne 13, 3) := by decide +kernel
theorem d_PB_dispute_8 : decode b_PB_dispute 8 = .ok (.new 71, 3) := by decide +kernel
theorem d_PB_dispute_11 : decode b_PB_dispute 11 = .ok (.dup, 1) := by decide +kernel
theorem d_PB_dispute_12 : decode b_PB_dispute 12 = .ok (.ldc 162, 2) := by decide +kernel
theorem d_PB_dispute_14 : decode b_PB_dispute 14 = .ok (.invokespecial 75, 3) := by decide +kernel
theorem d_PB_dispute_17 : decode b_PB_dispute 17 = .ok (.athrow, 1) := by decide +kernel
theorem d_PB_dispute_18 : decode b_PB_dispute 18 = .ok (.aload_n 0, 1) := by decide +kernel
theorem d_PB_dispute_19 : decode b_PB_dispute 19 = .ok (.getfield 40, 3) := by decide +kernel
theorem d_PB_dispute_22 : decode b_PB_dispute 22 = .ok (.iload_n 1, 1) := by decide +kernel
theorem d_PB_dispute_23 : decode b_PB_dispute 23 = .ok (.invokevirtual 135, 3) := by decide +kernel
theorem d_PB_dispute_26 : decode b_PB_dispute 26 = .ok (.checkcast 139, 3) := by decide +kernel
theorem d_PB_dispute_29 : decode b_PB_dispute 29 = .ok (.astore_n 3, 1) := by decide +kernel
theorem d_PB_dispute_30 : decode b_PB_dispute 30 = .ok (.aload_n 3, 1) := by decide +kernel
theorem d_PB_dispute_31 : decode b_PB_dispute 31 = .ok (.invokevirtual 141, 3) := by decide +kernel
theorem d_PB_dispute_34 : decode b_PB_dispute 34 = .ok (.ifCond .ne 11, 3) := by decide +kernel
theorem d_PB_dispute_37 : decode b_PB_dispute 37 = .ok (.aload_n 3, 1) := by decide +kernel
theorem d_PB_dispute_38 : decode b_PB_dispute 38 = .ok (.getfield 158, 3) := by decide +kernel
theorem d_PB_dispute_41 : decode b_PB_dispute 41 = .ok (.iload_n 2, 1) := by decide +kernel
theorem d_PB_dispute_42 : decode b_PB_dispute 42 = .ok (.if_icmp .ne 5, 3) := by decide +kernel
theorem d_PB_dispute_45 : decode b_PB_dispute 45 = .ok (.iconst 0, 1) := by decide +kernel
theorem d_PB_dispute_46 : decode b_PB_dispute 46 = .ok (.ireturn, 1) := by decide +kernel
theorem d_PB_dispute_47 : decode b_PB_dispute 47 = .ok (.aload_n 3, 1) := by decide +kernel
theorem d_PB_dispute_48 : decode b_PB_dispute 48 = .ok (.iload_n 2, 1) := by decide +kernel
theorem d_PB_dispute_49 : decode b_PB_dispute 49 = .ok (.putfield 158, 3) := by decide +kernel
theorem d_PB_dispute_52 : decode b_PB_dispute 52 = .ok (.iconst 0, 1) := by decide +kernel
theorem d_PB_dispute_53 : decode b_PB_dispute 53 = .ok (.istore 4, 2) := by decide +kernel
theorem d_PB_dispute_55 : decode b_PB_dispute 55 = .ok (.iload 4, 2) := by decide +kernel
theorem d_PB_dispute_57 : decode b_PB_dispute 57 = .ok (.aload_n 0, 1) := by decide +kernel
theorem d_PB_dispute_58 : decode b_PB_dispute 58 = .ok (.getfield 40, 3) := by decide +kernel
theorem d_PB_dispute_61 : decode b_PB_dispute 61 = .ok (.invokevirtual 109, 3) := by decide +kernel
theorem d_PB_dispute_64 : decode b_PB_dispute 64 = .ok (.if_icmp .ge 38, 3) := by decide +kernel
theorem d_PB_dispute_67 : decode b_PB_dispute 67 = .ok (.aload_n 0, 1) := by decide +kernel
theorem d_PB_dispute_68 : decode b_PB_dispute 68 = .ok (.getfield 40, 3) := by decide +kernel
theorem d_PB_dispute_71 : decode b_PB_dispute 71 = .ok (.iload 4, 2) := by decide +kernel
theorem d_PB_dispute_73 : decode b_PB_dispute 73 = .ok (.invokevirtual 135, 3) := by decide +kernel
theorem d_PB_dispute_76 : decode b_PB_dispute 76 = .ok (.checkcast 139, 3) := by decide +kernel
theorem d_PB_dispute_79 : decode b_PB_dispute 79 = .ok (.astore 5, 2) := by decide +kernel
theorem d_PB_dispute_81 : decode b_PB_dispute 81 = .ok (.aload 5, 2) := by decide +kernel
theorem d_PB_dispute_83 : decode b_PB_dispute 83 = .ok (.getfield 164, 3) := by decide +kernel
theorem d_PB_dispute_86 : decode b_PB_dispute 86 = .ok (.iload_n 1, 1) := by decide +kernel
theorem d_PB_dispute_87 : decode b_PB_dispute 87 = .ok (.if_icmp .ne 9, 3) := by decide +kernel
theorem d_PB_dispute_90 : decode b_PB_dispute 90 = .ok (.aload 5, 2) := by decide +kernel
theorem d_PB_dispute_92 : decode b_PB_dispute 92 = .ok (.iload_n 2, 1) := by decide +kernel
theorem d_PB_dispute_93 : decode b_PB_dispute 93 = .ok (.putfield 158, 3) := by decide +kernel
theorem d_PB_dispute_96 : decode b_PB_dispute 96 = .ok (.iinc 4 1, 3) := by decide +kernel
theorem d_PB_dispute_99 : decode b_PB_dispute 99 = .ok (.goto (-44), 3) := by decide +kernel
theorem d_PB_dispute_102 : decode b_PB_dispute 102 = .ok (.iconst 1, 1) := by decide +kernel
theorem d_PB_dispute_103 : decode b_PB_dispute 103 = .ok (.ireturn, 1) := by decide +kernel
theorem d_PB_pay_0 : decode b_PB_pay 0 = .ok (.iload_n 1, 1) := by decide +kernel
theorem d_PB_pay_1 : decode b_PB_pay 1 = .ok (.invokestatic 81, 3) := by decide +kernel
theorem d_PB_pay_4 : decode b_PB_pay 4 = .ok (.ifCond .eq 17, 3) := by decide +kernel
theorem d_PB_pay_7 : decode b_PB_pay 7 = .ok (.lload_n 2, 1) := by decide +kernel
theorem d_PB_pay_8 : decode b_PB_pay 8 = .ok (.lconst 1, 1) := by decide +kernel
theorem d_PB_pay_9 : decode b_PB_pay 9 = .ok (.lcmp, 1) := by decide +kernel
theorem d_PB_pay_10 : decode b_PB_pay 10 = .ok (.ifCond .lt 11, 3) := by decide +kernel
theorem d_PB_pay_13 : decode b_PB_pay 13 = .ok (.lload_n 2, 1) := by decide +kernel
theorem d_PB_pay_14 : decode b_PB_pay 14 = .ok (.ldc2_w 129, 3) := by decide +kernel
theorem d_PB_pay_17 : decode b_PB_pay 17 = .ok (.lcmp, 1) := by decide +kernel
theorem d_PB_pay_18 : decode b_PB_pay 18 = .ok (.ifCond .le 13, 3) := by decide +kernel
theorem d_PB_pay_21 : decode b_PB_pay 21 = .ok (.new 71, 3) := by decide +kernel
theorem d_PB_pay_24 : decode b_PB_pay 24 = .ok (.dup, 1) := by decide +kernel
theorem d_PB_pay_25 : decode b_PB_pay 25 = .ok (.ldc 167, 2) := by decide +kernel
theorem d_PB_pay_27 : decode b_PB_pay 27 = .ok (.invokespecial 75, 3) := by decide +kernel
theorem d_PB_pay_30 : decode b_PB_pay 30 = .ok (.athrow, 1) := by decide +kernel
theorem d_PB_pay_31 : decode b_PB_pay 31 = .ok (.aload_n 0, 1) := by decide +kernel
theorem d_PB_pay_32 : decode b_PB_pay 32 = .ok (.getfield 44, 3) := by decide +kernel
theorem d_PB_pay_35 : decode b_PB_pay 35 = .ok (.iload_n 1, 1) := by decide +kernel
theorem d_PB_pay_36 : decode b_PB_pay 36 = .ok (.dup2, 1) := by decide +kernel
theorem d_PB_pay_37 : decode b_PB_pay 37 = .ok (.laload, 1) := by decide +kernel
theorem d_PB_pay_38 : decode b_PB_pay 38 = .ok (.lload_n 2, 1) := by decide +kernel
theorem d_PB_pay_39 : decode b_PB_pay 39 = .ok (.ladd, 1) := by decide +kernel
theorem d_PB_pay_40 : decode b_PB_pay 40 = .ok (.lastore, 1) := by decide +kernel
theorem d_PB_pay_41 : decode b_PB_pay 41 = .ok (.aload_n 0, 1) := by decide +kernel
theorem d_PB_pay_42 : decode b_PB_pay 42 = .ok (.iload_n 1, 1) := by decide +kernel
theorem d_PB_pay_43 : decode b_PB_pay 43 = .ok (.invokevirtual 169, 3) := by decide +kernel
theorem d_PB_pay_46 : decode b_PB_pay 46 = .ok (.lreturn, 1) := by decide +kernel
theorem d_PB_unpaid_0 : decode b_PB_unpaid 0 = .ok (.iload_n 1, 1) := by decide +kernel
theorem d_PB_unpaid_1 : decode b_PB_unpaid 1 = .ok (.invokestatic 81, 3) := by decide +kernel
theorem d_PB_unpaid_4 : decode b_PB_unpaid 4 = .ok (.ifCond .ne 13, 3) := by decide +kernel
theorem d_PB_unpaid_7 : decode b_PB_unpaid 7 = .ok (.new 71, 3) := by decide +kernel
theorem d_PB_unpaid_10 : decode b_PB_unpaid 10 = .ok (.dup, 1) := by decide +kernel
theorem d_PB_unpaid_11 : decode b_PB_unpaid 11 = .ok (.ldc 103, 2) := by decide +kernel
theorem d_PB_unpaid_13 : decode b_PB_unpaid 13 = .ok (.invokespecial 75, 3) := by decide +kernel
theorem d_PB_unpaid_16 : decode b_PB_unpaid 16 = .ok (.athrow, 1) := by decide +kernel
theorem d_PB_unpaid_17 : decode b_PB_unpaid 17 = .ok (.aload_n 0, 1) := by decide +kernel
theorem d_PB_unpaid_18 : decode b_PB_unpaid 18 = .ok (.iload_n 1, 1) := by decide +kernel
theorem d_PB_unpaid_19 : decode b_PB_unpaid 19 = .ok (.invokevirtual 169, 3) := by decide +kernel
theorem d_PB_unpaid_22 : decode b_PB_unpaid 22 = .ok (.lreturn, 1) := by decide +kernel
theorem d_PB_share_0 : decode b_PB_share 0 = .ok (.lload_n 1, 1) := by decide +kernel
theorem d_PB_share_1 : decode b_PB_share 1 = .ok (.lconst 0, 1) := by decide +kernel
theorem d_PB_share_2 : decode b_PB_share 2 = .ok (.lcmp, 1) := by decide +kernel
theorem d_PB_share_3 : decode b_PB_share 3 = .ok (.ifCond .lt 26, 3) := by decide +kernel
theorem d_PB_share_6 : decode b_PB_share 6 = .ok (.lload_n 1, 1) := by decide +kernel
theorem d_PB_share_7 : decode b_PB_share 7 = .ok (.ldc2_w 129, 3) := by decide +kernel
theorem d_PB_share_10 : decode b_PB_share 10 = .ok (.lcmp, 1) := by decide +kernel
theorem d_PB_share_11 : decode b_PB_share 11 = .ok (.ifCond .gt 18, 3) := by decide +kernel
theorem d_PB_share_14 : decode b_PB_share 14 = .ok (.iload_n 3, 1) := by decide +kernel
theorem d_PB_share_15 : decode b_PB_share 15 = .ok (.invokestatic 173, 3) := by decide +kernel
theorem d_PB_share_18 : decode b_PB_share 18 = .ok (.ifCond .eq 11, 3) := by decide +kernel
theorem d_PB_share_21 : decode b_PB_share 21 = .ok (.iload 4, 2) := by decide +kernel
theorem d_PB_share_23 : decode b_PB_share 23 = .ok (.invokestatic 173, 3) := by decide +kernel
theorem d_PB_share_26 : decode b_PB_share 26 = .ok (.ifCond .ne 13, 3) := by decide +kernel
theorem d_PB_share_29 : decode b_PB_share 29 = .ok (.new 71, 3) := by decide +kernel
theorem d_PB_share_32 : decode b_PB_share 32 = .ok (.dup, 1) := by decide +kernel
theorem d_PB_share_33 : decode b_PB_share 33 = .ok (.ldc 176, 2) := by decide +kernel
theorem d_PB_share_35 : decode b_PB_share 35 = .ok (.invokespecial 75, 3) := by decide +kernel
theorem d_PB_share_38 : decode b_PB_share 38 = .ok (.athrow, 1) := by decide +kernel
theorem d_PB_share_39 : decode b_PB_share 39 = .ok (.iload 4, 2) := by decide +kernel
theorem d_PB_share_41 : decode b_PB_share 41 = .ok (.ifCond .ne 13, 3) := by decide +kernel
theorem d_PB_share_44 : decode b_PB_share 44 = .ok (.new 178, 3) := by decide +kernel
theorem d_PB_share_47 : decode b_PB_share 47 = .ok (.dup, 1) := by decide +kernel
theorem d_PB_share_48 : decode b_PB_share 48 = .ok (.ldc 180, 2) := by decide +kernel
theorem d_PB_share_50 : decode b_PB_share 50 = .ok (.invokespecial 182, 3) := by decide +kernel
theorem d_PB_share_53 : decode b_PB_share 53 = .ok (.athrow, 1) := by decide +kernel
theorem d_PB_share_54 : decode b_PB_share 54 = .ok (.lload_n 1, 1) := by decide +kernel
theorem d_PB_share_55 : decode b_PB_share 55 = .ok (.iload_n 3, 1) := by decide +kernel
theorem d_PB_share_56 : decode b_PB_share 56 = .ok (.i2l, 1) := by decide +kernel
theorem d_PB_share_57 : decode b_PB_share 57 = .ok (.lmul, 1) := by decide +kernel
theorem d_PB_share_58 : decode b_PB_share 58 = .ok (.iload 4, 2) := by decide +kernel
theorem d_PB_share_60 : decode b_PB_share 60 = .ok (.i2l, 1) := by decide +kernel
theorem d_PB_share_61 : decode b_PB_share 61 = .ok (.invokestatic 183, 3) := by decide +kernel
theorem d_PB_share_64 : decode b_PB_share 64 = .ok (.lreturn, 1) := by decide +kernel
theorem d_PB_line_0 : decode b_PB_line 0 = .ok (.aload_n 0, 1) := by decide +kernel
theorem d_PB_line_1 : decode b_PB_line 1 = .ok (.iload_n 1, 1) := by decide +kernel
theorem d_PB_line_2 : decode b_PB_line 2 = .ok (.invokevirtual 126, 3) := by decide +kernel
theorem d_PB_line_5 : decode b_PB_line 5 = .ok (.ifCond .eq 13, 3) := by decide +kernel
theorem d_PB_line_8 : decode b_PB_line 8 = .ok (.iload_n 2, 1) := by decide +kernel
theorem d_PB_line_9 : decode b_PB_line 9 = .ok (.ifCond .lt 9, 3) := by decide +kernel
theorem d_PB_line_12 : decode b_PB_line 12 = .ok (.iload_n 2, 1) := by decide +kernel
theorem d_PB_line_13 : decode b_PB_line 13 = .ok (.bipush 9, 2) := by decide +kernel
theorem d_PB_line_15 : decode b_PB_line 15 = .ok (.if_icmp .lt 13, 3) := by decide +kernel
theorem d_PB_line_18 : decode b_PB_line 18 = .ok (.new 187, 3) := by decide +kernel
theorem d_PB_line_21 : decode b_PB_line 21 = .ok (.dup, 1) := by decide +kernel
theorem d_PB_line_22 : decode b_PB_line 22 = .ok (.ldc 189, 2) := by decide +kernel
theorem d_PB_line_24 : decode b_PB_line 24 = .ok (.invokespecial 191, 3) := by decide +kernel
theorem d_PB_line_27 : decode b_PB_line 27 = .ok (.athrow, 1) := by decide +kernel
theorem d_PB_line_28 : decode b_PB_line 28 = .ok (.aload_n 0, 1) := by decide +kernel
theorem d_PB_line_29 : decode b_PB_line 29 = .ok (.getfield 40, 3) := by decide +kernel
theorem d_PB_line_32 : decode b_PB_line 32 = .ok (.iload_n 1, 1) := by decide +kernel
theorem d_PB_line_33 : decode b_PB_line 33 = .ok (.invokevirtual 135, 3) := by decide +kernel
theorem d_PB_line_36 : decode b_PB_line 36 = .ok (.checkcast 139, 3) := by decide +kernel
theorem d_PB_line_39 : decode b_PB_line 39 = .ok (.iload_n 2, 1) := by decide +kernel
theorem d_PB_line_40 : decode b_PB_line 40 = .ok (.invokevirtual 192, 3) := by decide +kernel
theorem d_PB_line_43 : decode b_PB_line 43 = .ok (.lreturn, 1) := by decide +kernel
theorem d_PB_count_0 : decode b_PB_count 0 = .ok (.iload_n 1, 1) := by decide +kernel
theorem d_PB_count_1 : decode b_PB_count 1 = .ok (.bipush 10, 2) := by decide +kernel
theorem d_PB_count_3 : decode b_PB_count 3 = .ok (.isub, 1) := by decide +kernel
theorem d_PB_count_4 : decode b_PB_count 4 = .ok (.invokestatic 81, 3) := by decide +kernel
theorem d_PB_count_7 : decode b_PB_count 7 = .ok (.ifCond .eq 12, 3) := by decide +kernel
theorem d_PB_count_10 : decode b_PB_count 10 = .ok (.aload_n 0, 1) := by decide +kernel
theorem d_PB_count_11 : decode b_PB_count 11 = .ok (.iload_n 1, 1) := by decide +kernel
theorem d_PB_count_12 : decode b_PB_count 12 = .ok (.bipush 10, 2) := by decide +kernel
theorem d_PB_count_14 : decode b_PB_count 14 = .ok (.isub, 1) := by decide +kernel
theorem d_PB_count_15 : decode b_PB_count 15 = .ok (.invokevirtual 195, 3) := by decide +kernel
theorem d_PB_count_18 : decode b_PB_count 18 = .ok (.ireturn, 1) := by decide +kernel
theorem d_PB_count_19 : decode b_PB_count 19 = .ok (.iload_n 1, 1) := by decide +kernel
theorem d_PB_count_20 : decode b_PB_count 20 = .ok (.bipush 20, 2) := by decide +kernel
theorem d_PB_count_22 : decode b_PB_count 22 = .ok (.isub, 1) := by decide +kernel
theorem d_PB_count_23 : decode b_PB_count 23 = .ok (.invokestatic 81, 3) := by decide +kernel
theorem d_PB_count_26 : decode b_PB_count 26 = .ok (.ifCond .eq 13, 3) := by decide +kernel
theorem d_PB_count_29 : decode b_PB_count 29 = .ok (.aload_n 0, 1) := by decide +kernel
theorem d_PB_count_30 : decode b_PB_count 30 = .ok (.getfield 24, 3) := by decide +kernel
theorem d_PB_count_33 : decode b_PB_count 33 = .ok (.iload_n 1, 1) := by decide +kernel
theorem d_PB_count_34 : decode b_PB_count 34 = .ok (.bipush 20, 2) := by decide +kernel
theorem d_PB_count_36 : decode b_PB_count 36 = .ok (.isub, 1) := by decide +kernel
theorem d_PB_count_37 : decode b_PB_count 37 = .ok (.iaload, 1) := by decide +kernel
theorem d_PB_count_38 : decode b_PB_count 38 = .ok (.ireturn, 1) := by decide +kernel
theorem d_PB_count_39 : decode b_PB_count 39 = .ok (.iload_n 1, 1) := by decide +kernel
theorem d_PB_count_40 : decode b_PB_count 40 = .ok (.tableswitch 58 0 3 #[32, 40, 45, 53], 32) := by decide +kernel
theorem d_PB_count_72 : decode b_PB_count 72 = .ok (.aload_n 0, 1) := by decide +kernel
theorem d_PB_count_73 : decode b_PB_count 73 = .ok (.getfield 10, 3) := by decide +kernel
theorem d_PB_count_76 : decode b_PB_count 76 = .ok (.getfield 198, 3) := by decide +kernel
theorem d_PB_count_79 : decode b_PB_count 79 = .ok (.ireturn, 1) := by decide +kernel
theorem d_PB_count_80 : decode b_PB_count 80 = .ok (.aload_n 0, 1) := by decide +kernel
theorem d_PB_count_81 : decode b_PB_count 81 = .ok (.getfield 87, 3) := by decide +kernel
theorem d_PB_count_84 : decode b_PB_count 84 = .ok (.ireturn, 1) := by decide +kernel
theorem d_PB_count_85 : decode b_PB_count 85 = .ok (.aload_n 0, 1) := by decide +kernel
theorem d_PB_count_86 : decode b_PB_count 86 = .ok (.getfield 40, 3) := by decide +kernel
theorem d_PB_count_89 : decode b_PB_count 89 = .ok (.invokevirtual 109, 3) := by decide +kernel
theorem d_PB_count_92 : decode b_PB_count 92 = .ok (.ireturn, 1) := by decide +kernel
theorem d_PB_count_93 : decode b_PB_count 93 = .ok (.aload_n 0, 1) := by decide +kernel
theorem d_PB_count_94 : decode b_PB_count 94 = .ok (.getfield 201, 3) := by decide +kernel
theorem d_PB_count_97 : decode b_PB_count 97 = .ok (.ireturn, 1) := by decide +kernel
theorem d_PB_count_98 : decode b_PB_count 98 = .ok (.iconst (-1), 1) := by decide +kernel
theorem d_PB_count_99 : decode b_PB_count 99 = .ok (.ireturn, 1) := by decide +kernel
theorem d_PB_isCall_0 : decode b_PB_isCall 0 = .ok (.iload_n 0, 1) := by decide +kernel
theorem d_PB_isCall_1 : decode b_PB_isCall 1 = .ok (.ifCond .lt 13, 3) := by decide +kernel
theorem d_PB_isCall_4 : decode b_PB_isCall 4 = .ok (.iload_n 0, 1) := by decide +kernel
theorem d_PB_isCall_5 : decode b_PB_isCall 5 = .ok (.bipush 10, 2) := by decide +kernel
theorem d_PB_isCall_7 : decode b_PB_isCall 7 = .ok (.if_icmp .ge 7, 3) := by decide +kernel
theorem d_PB_isCall_10 : decode b_PB_isCall 10 = .ok (.iconst 1, 1) := by decide +kernel
theorem d_PB_isCall_11 : decode b_PB_isCall 11 = .ok (.goto 4, 3) := by decide +kernel
theorem d_PB_isCall_14 : decode b_PB_isCall 14 = .ok (.iconst 0, 1) := by decide +kernel
theorem d_PB_isCall_15 : decode b_PB_isCall 15 = .ok (.ireturn, 1) := by decide +kernel
theorem d_PB_isKind_0 : decode b_PB_isKind 0 = .ok (.iload_n 0, 1) := by decide +kernel
theorem d_PB_isKind_1 : decode b_PB_isKind 1 = .ok (.ifCond .lt 13, 3) := by decide +kernel
theorem d_PB_isKind_4 : decode b_PB_isKind 4 = .ok (.iload_n 0, 1) := by decide +kernel
theorem d_PB_isKind_5 : decode b_PB_isKind 5 = .ok (.bipush 6, 2) := by decide +kernel
theorem d_PB_isKind_7 : decode b_PB_isKind 7 = .ok (.if_icmp .ge 7, 3) := by decide +kernel
theorem d_PB_isKind_10 : decode b_PB_isKind 10 = .ok (.iconst 1, 1) := by decide +kernel
theorem d_PB_isKind_11 : decode b_PB_isKind 11 = .ok (.goto 4, 3) := by decide +kernel
theorem d_PB_isKind_14 : decode b_PB_isKind 14 = .ok (.iconst 0, 1) := by decide +kernel
theorem d_PB_isKind_15 : decode b_PB_isKind 15 = .ok (.ireturn, 1) := by decide +kernel
theorem d_PB_isKey_0 : decode b_PB_isKey 0 = .ok (.iload_n 0, 1) := by decide +kernel
theorem d_PB_isKey_1 : decode b_PB_isKey 1 = .ok (.ifCond .lt 13, 3) := by decide +kernel
theorem d_PB_isKey_4 : decode b_PB_isKey 4 = .ok (.iload_n 0, 1) := by decide +kernel
theorem d_PB_isKey_5 : decode b_PB_isKey 5 = .ok (.ldc 204, 2) := by decide +kernel
theorem d_PB_isKey_7 : decode b_PB_isKey 7 = .ok (.if_icmp .gt 7, 3) := by decide +kernel
theorem d_PB_isKey_10 : decode b_PB_isKey 10 = .ok (.iconst 1, 1) := by decide +kernel
theorem d_PB_isKey_11 : decode b_PB_isKey 11 = .ok (.goto 4, 3) := by decide +kernel
theorem d_PB_isKey_14 : decode b_PB_isKey 14 = .ok (.iconst 0, 1) := by decide +kernel
theorem d_PB_isKey_15 : decode b_PB_isKey 15 = .ok (.ireturn, 1) := by decide +kernel
theorem d_PB_isLine_0 : decode b_PB_isLine 0 = .ok (.iload_n 1, 1) := by decide +kernel
theorem d_PB_isLine_1 : decode b_PB_isLine 1 = .ok (.ifCond .lt 18, 3) := by decide +kernel
theorem d_PB_isLine_4 : decode b_PB_isLine 4 = .ok (.iload_n 1, 1) := by decide +kernel
theorem d_PB_isLine_5 : decode b_PB_isLine 5 = .ok (.aload_n 0, 1) := by decide +kernel
theorem d_PB_isLine_6 : decode b_PB_isLine 6 = .ok (.getfield 40, 3) := by decide +kernel
theorem d_PB_isLine_9 : decode b_PB_isLine 9 = .ok (.invokevirtual 109, 3) := by decide +kernel
theorem d_PB_isLine_12 : decode b_PB_isLine 12 = .ok (.if_icmp .ge 7, 3) := by decide +kernel
theorem d_PB_isLine_15 : decode b_PB_isLine 15 = .ok (.iconst 1, 1) := by decide +kernel
theorem d_PB_isLine_16 : decode b_PB_isLine 16 = .ok (.goto 4, 3) := by decide +kernel
theorem d_PB_isLine_19 : decode b_PB_isLine 19 = .ok (.iconst 0, 1) := by decide +kernel
theorem d_PB_isLine_20 : decode b_PB_isLine 20 = .ok (.ireturn, 1) := by decide +kernel
theorem d_PB_hasTariff_0 : decode b_PB_hasTariff 0 = .ok (.aload_n 0, 1) := by decide +kernel
theorem d_PB_hasTariff_1 : decode b_PB_hasTariff 1 = .ok (.getfield 201, 3) := by decide +kernel
theorem d_PB_hasTariff_4 : decode b_PB_hasTariff 4 = .ok (.iload_n 1, 1) := by decide +kernel
theorem d_PB_hasTariff_5 : decode b_PB_hasTariff 5 = .ok (.ishr, 1) := by decide +kernel
theorem d_PB_hasTariff_6 : decode b_PB_hasTariff 6 = .ok (.iconst 1, 1) := by decide +kernel
theorem d_PB_hasTariff_7 : decode b_PB_hasTariff 7 = .ok (.iand, 1) := by decide +kernel
theorem d_PB_hasTariff_8 : decode b_PB_hasTariff 8 = .ok (.iconst 1, 1) := by decide +kernel
theorem d_PB_hasTariff_9 : decode b_PB_hasTariff 9 = .ok (.if_icmp .ne 7, 3) := by decide +kernel
theorem d_PB_hasTariff_12 : decode b_PB_hasTariff 12 = .ok (.iconst 1, 1) := by decide +kernel
theorem d_PB_hasTariff_13 : decode b_PB_hasTariff 13 = .ok (.goto 4, 3) := by decide +kernel
theorem d_PB_hasTariff_16 : decode b_PB_hasTariff 16 = .ok (.iconst 0, 1) := by decide +kernel
theorem d_PB_hasTariff_17 : decode b_PB_hasTariff 17 = .ok (.ireturn, 1) := by decide +kernel
theorem d_PB_takeOverTariffs_0 : decode b_PB_takeOverTariffs 0 = .ok (.iconst 0, 1) := by decide +kernel
theorem d_PB_takeOverTariffs_1 : decode b_PB_takeOverTariffs 1 = .ok (.istore_n 1, 1) := by decide +kernel
theorem d_PB_takeOverTariffs_2 : decode b_PB_takeOverTariffs 2 = .ok (.iload_n 1, 1) := by decide +kernel
theorem d_PB_takeOverTariffs_3 : decode b_PB_takeOverTariffs 3 = .ok (.bipush 6, 2) := by decide +kernel
theorem d_PB_takeOverTariffs_5 : decode b_PB_takeOverTariffs 5 = .ok (.if_icmp .ge 45, 3) := by decide +kernel
theorem d_PB_takeOverTariffs_8 : decode b_PB_takeOverTariffs 8 = .ok (.aload_n 0, 1) := by decide +kernel
theorem d_PB_takeOverTariffs_9 : decode b_PB_takeOverTariffs 9 = .ok (.getfield 10, 3) := by decide +kernel
theorem d_PB_takeOverTariffs_12 : decode b_PB_takeOverTariffs 12 = .ok (.getfield 205, 3) := by decide +kernel
theorem d_PB_takeOverTariffs_15 : decode b_PB_takeOverTariffs 15 = .ok (.iload_n 1, 1) := by decide +kernel
theorem d_PB_takeOverTariffs_16 : decode b_PB_takeOverTariffs 16 = .ok (.ishr, 1) := by decide +kernel
theorem d_PB_takeOverTariffs_17 : decode b_PB_takeOverTariffs 17 = .ok (.iconst 1, 1) := by decide +kernel
theorem d_PB_takeOverTariffs_18 : decode b_PB_takeOverTariffs 18 = .ok (.iand, 1) := by decide +kernel
theorem d_PB_takeOverTariffs_19 : decode b_PB_takeOverTariffs 19 = .ok (.iconst 1, 1) := by decide +kernel
theorem d_PB_takeOverTariffs_20 : decode b_PB_takeOverTariffs 20 = .ok (.if_icmp .ne 24, 3) := by decide +kernel
theorem d_PB_takeOverTariffs_23 : decode b_PB_takeOverTariffs 23 = .ok (.aload_n 0, 1) := by decide +kernel
theorem d_PB_takeOverTariffs_24 : decode b_PB_takeOverTariffs 24 = .ok (.getfield 10, 3) := by decide +kernel
theorem d_PB_takeOverTariffs_27 : decode b_PB_takeOverTariffs 27 = .ok (.getfield 208, 3) := by decide +kernel
theorem d_PB_takeOverTariffs_30 : decode b_PB_takeOverTariffs 30 = .ok (.iload_n 1, 1) := by decide +kernel
theorem d_PB_takeOverTariffs_31 : decode b_PB_takeOverTariffs 31 = .ok (.aaload, 1) := by decide +kernel
theorem d_PB_takeOverTariffs_32 : decode b_PB_takeOverTariffs 32 = .ok (.iconst 0, 1) := by decide +kernel
theorem d_PB_takeOverTariffs_33 : decode b_PB_takeOverTariffs 33 = .ok (.aload_n 0, 1) := by decide +kernel
theorem d_PB_takeOverTariffs_34 : decode b_PB_takeOverTariffs 34 = .ok (.getfield 18, 3) := by decide +kernel
theorem d_PB_takeOverTariffs_37 : decode b_PB_takeOverTariffs 37 = .ok (.iload_n 1, 1) := by decide +kernel
theorem d_PB_takeOverTariffs_38 : decode b_PB_takeOverTariffs 38 = .ok (.aaload, 1) := by decide +kernel
theorem d_PB_takeOverTariffs_39 : decode b_PB_takeOverTariffs 39 = .ok (.iconst 0, 1) := by decide +kernel
theorem d_PB_takeOverTariffs_40 : decode b_PB_takeOverTariffs 40 = .ok (.iconst 4, 1) := by decide +kernel
theorem d_PB_takeOverTariffs_41 : decode b_PB_takeOverTariffs 41 = .ok (.invokestatic 211, 3) := by decide +kernel
theorem d_PB_takeOverTariffs_44 : decode b_PB_takeOverTariffs 44 = .ok (.iinc 1 1, 3) := by decide +kernel
theorem d_PB_takeOverTariffs_47 : decode b_PB_takeOverTariffs 47 = .ok (.goto (-45), 3) := by decide +kernel
theorem d_PB_takeOverTariffs_50 : decode b_PB_takeOverTariffs 50 = .ok (.aload_n 0, 1) := by decide +kernel
theorem d_PB_takeOverTariffs_51 : decode b_PB_takeOverTariffs 51 = .ok (.dup, 1) := by decide +kernel
theorem d_PB_takeOverTariffs_52 : decode b_PB_takeOverTariffs 52 = .ok (.getfield 201, 3) := by decide +kernel
theorem d_PB_takeOverTariffs_55 : decode b_PB_takeOverTariffs 55 = .ok (.aload_n 0, 1) := by decide +kernel
theorem d_PB_takeOverTariffs_56 : decode b_PB_takeOverTariffs 56 = .ok (.getfield 10, 3) := by decide +kernel
theorem d_PB_takeOverTariffs_59 : decode b_PB_takeOverTariffs 59 = .ok (.getfield 205, 3) := by decide +kernel
theorem d_PB_takeOverTariffs_62 : decode b_PB_takeOverTariffs 62 = .ok (.ior, 1) := by decide +kernel
theorem d_PB_takeOverTariffs_63 : decode b_PB_takeOverTariffs 63 = .ok (.putfield 201, 3) := by decide +kernel
theorem d_PB_takeOverTariffs_66 : decode b_PB_takeOverTariffs 66 = .ok (.return_, 1) := by decide +kernel
theorem d_PB_kindsThatWait_0 : decode b_PB_kindsThatWait 0 = .ok (.iconst 0, 1) := by decide +kernel
theorem d_PB_kindsThatWait_1 : decode b_PB_kindsThatWait 1 = .ok (.istore_n 2, 1) := by decide +kernel
theorem d_PB_kindsThatWait_2 : decode b_PB_kindsThatWait 2 = .ok (.iconst 0, 1) := by decide +kernel
theorem d_PB_kindsThatWait_3 : decode b_PB_kindsThatWait 3 = .ok (.istore_n 3, 1) := by decide +kernel
theorem d_PB_kindsThatWait_4 : decode b_PB_kindsThatWait 4 = .ok (.iload_n 3, 1) := by decide +kernel
theorem d_PB_kindsThatWait_5 : decode b_PB_kindsThatWait 5 = .ok (.bipush 6, 2) := by decide +kernel
theorem d_PB_kindsThatWait_7 : decode b_PB_kindsThatWait 7 = .ok (.if_icmp .ge 23, 3) := by decide +kernel
theorem d_PB_kindsThatWait_10 : decode b_PB_kindsThatWait 10 = .ok (.aload_n 0, 1) := by decide +kernel
theorem d_PB_kindsThatWait_11 : decode b_PB_kindsThatWait 11 = .ok (.getfield 21, 3) := by decide +kernel
theorem d_PB_kindsThatWait_14 : decode b_PB_kindsThatWait 14 = .ok (.iload_n 1, 1) := by decide +kernel
theorem d_PB_kindsThatWait_15 : decode b_PB_kindsThatWait 15 = .ok (.aaload, 1) := by decide +kernel
theorem d_PB_kindsThatWait_16 : decode b_PB_kindsThatWait 16 = .ok (.iload_n 3, 1) := by decide +kernel
theorem d_PB_kindsThatWait_17 : decode b_PB_kindsThatWait 17 = .ok (.iaload, 1) := by decide +kernel
theorem d_PB_kindsThatWait_18 : decode b_PB_kindsThatWait 18 = .ok (.ifCond .le 6, 3) := by decide +kernel
theorem d_PB_kindsThatWait_21 : decode b_PB_kindsThatWait 21 = .ok (.iinc 2 1, 3) := by decide +kernel
theorem d_PB_kindsThatWait_24 : decode b_PB_kindsThatWait 24 = .ok (.iinc 3 1, 3) := by decide +kernel
theorem d_PB_kindsThatWait_27 : decode b_PB_kindsThatWait 27 = .ok (.goto (-23), 3) := by decide +kernel
theorem d_PB_kindsThatWait_30 : decode b_PB_kindsThatWait 30 = .ok (.iload_n 2, 1) := by decide +kernel
theorem d_PB_kindsThatWait_31 : decode b_PB_kindsThatWait 31 = .ok (.ireturn, 1) := by decide +kernel
theorem d_PB_forgetEvents_0 : decode b_PB_forgetEvents 0 = .ok (.aload_n 0, 1) := by decide +kernel
theorem d_PB_forgetEvents_1 : decode b_PB_forgetEvents 1 = .ok (.getfield 21, 3) := by decide +kernel
theorem d_PB_forgetEvents_4 : decode b_PB_forgetEvents 4 = .ok (.iload_n 1, 1) := by decide +kernel
theorem d_PB_forgetEvents_5 : decode b_PB_forgetEvents 5 = .ok (.aaload, 1) := by decide +kernel
theorem d_PB_forgetEvents_6 : decode b_PB_forgetEvents 6 = .ok (.iconst 0, 1) := by decide +kernel
theorem d_PB_forgetEvents_7 : decode b_PB_forgetEvents 7 = .ok (.invokestatic 48, 3) := by decide +kernel
theorem d_PB_forgetEvents_10 : decode b_PB_forgetEvents 10 = .ok (.aload_n 0, 1) := by decide +kernel
theorem d_PB_forgetEvents_11 : decode b_PB_forgetEvents 11 = .ok (.dup, 1) := by decide +kernel
theorem d_PB_forgetEvents_12 : decode b_PB_forgetEvents 12 = .ok (.getfield 87, 3) := by decide +kernel
theorem d_PB_forgetEvents_15 : decode b_PB_forgetEvents 15 = .ok (.aload_n 0, 1) := by decide +kernel
theorem d_PB_forgetEvents_16 : decode b_PB_forgetEvents 16 = .ok (.getfield 24, 3) := by decide +kernel
theorem d_PB_forgetEvents_19 : decode b_PB_forgetEvents 19 = .ok (.iload_n 1, 1) := by decide +kernel
theorem d_PB_forgetEvents_20 : decode b_PB_forgetEvents 20 = .ok (.iaload, 1) := by decide +kernel
theorem d_PB_forgetEvents_21 : decode b_PB_forgetEvents 21 = .ok (.isub, 1) := by decide +kernel
theorem d_PB_forgetEvents_22 : decode b_PB_forgetEvents 22 = .ok (.putfield 87, 3) := by decide +kernel
theorem d_PB_forgetEvents_25 : decode b_PB_forgetEvents 25 = .ok (.aload_n 0, 1) := by decide +kernel
theorem d_PB_forgetEvents_26 : decode b_PB_forgetEvents 26 = .ok (.getfield 24, 3) := by decide +kernel
theorem d_PB_forgetEvents_29 : decode b_PB_forgetEvents 29 = .ok (.iload_n 1, 1) := by decide +kernel
theorem d_PB_forgetEvents_30 : decode b_PB_forgetEvents 30 = .ok (.iconst 0, 1) := by decide +kernel
theorem d_PB_forgetEvents_31 : decode b_PB_forgetEvents 31 = .ok (.iastore, 1) := by decide +kernel
theorem d_PB_forgetEvents_32 : decode b_PB_forgetEvents 32 = .ok (.return_, 1) := by decide +kernel
theorem d_PB_billedLine_0 : decode b_PB_billedLine 0 = .ok (.aload_n 0, 1) := by decide +kernel
theorem d_PB_billedLine_1 : decode b_PB_billedLine 1 = .ok (.getfield 21, 3) := by decide +kernel
theorem d_PB_billedLine_4 : decode b_PB_billedLine 4 = .ok (.iload_n 1, 1) := by decide +kernel
theorem d_PB_billedLine_5 : decode b_PB_billedLine 5 = .ok (.aaload, 1) := by decide +kernel
theorem d_PB_billedLine_6 : decode b_PB_billedLine 6 = .ok (.iload_n 2, 1) := by decide +kernel
theorem d_PB_billedLine_7 : decode b_PB_billedLine 7 = .ok (.iaload, 1) := by decide +kernel
theorem d_PB_billedLine_8 : decode b_PB_billedLine 8 = .ok (.istore_n 3, 1) := by decide +kernel
theorem d_PB_billedLine_9 : decode b_PB_billedLine 9 = .ok (.iconst 0, 1) := by decide +kernel
theorem d_PB_billedLine_10 : decode b_PB_billedLine 10 = .ok (.iload_n 3, 1) := by decide +kernel
theorem d_PB_billedLine_11 : decode b_PB_billedLine 11 = .ok (.aload_n 0, 1) := by decide +kernel
theorem d_PB_billedLine_12 : decode b_PB_billedLine 12 = .ok (.getfield 18, 3) := by decide +kernel
theorem d_PB_billedLine_15 : decode b_PB_billedLine 15 = .ok (.iload_n 2, 1) := by decide +kernel
theorem d_PB_billedLine_16 : decode b_PB_billedLine 16 = .ok (.aaload, 1) := by decide +kernel
theorem d_PB_billedLine_17 : decode b_PB_billedLine 17 = .ok (.iconst 2, 1) := by decide +kernel
theorem d_PB_billedLine_18 : decode b_PB_billedLine 18 = .ok (.iaload, 1) := by decide +kernel
theorem d_PB_billedLine_19 : decode b_PB_billedLine 19 = .ok (.isub, 1) := by decide +kernel
theorem d_PB_billedLine_20 : decode b_PB_billedLine 20 = .ok (.invokestatic 217, 3) := by decide +kernel
theorem d_PB_billedLine_23 : decode b_PB_billedLine 23 = .ok (.istore 4, 2) := by decide +kernel
theorem d_PB_billedLine_25 : decode b_PB_billedLine 25 = .ok (.new 139, 3) := by decide +kernel
theorem d_PB_billedLine_28 : decode b_PB_billedLine 28 = .ok (.dup, 1) := by decide +kernel
theorem d_PB_billedLine_29 : decode b_PB_billedLine 29 = .ok (.iload_n 1, 1) := by decide +kernel
theorem d_PB_billedLine_30 : decode b_PB_billedLine 30 = .ok (.iload_n 2, 1) := by decide +kernel
theorem d_PB_billedLine_31 : decode b_PB_billedLine 31 = .ok (.iload_n 3, 1) := by decide +kernel
theorem d_PB_billedLine_32 : decode b_PB_billedLine 32 = .ok (.iload 4, 2) := by decide +kernel
theorem d_PB_billedLine_34 : decode b_PB_billedLine 34 = .ok (.aload_n 0, 1) := by decide +kernel
theorem d_PB_billedLine_35 : decode b_PB_billedLine 35 = .ok (.iload_n 1, 1) := by decide +kernel
theorem d_PB_billedLine_36 : decode b_PB_billedLine 36 = .ok (.iload_n 2, 1) := by decide +kernel
theorem d_PB_billedLine_37 : decode b_PB_billedLine 37 = .ok (.iload 4, 2) := by decide +kernel
theorem d_PB_billedLine_39 : decode b_PB_billedLine 39 = .ok (.invokevirtual 222, 3) := by decide +kernel
theorem d_PB_billedLine_42 : decode b_PB_billedLine 42 = .ok (.iconst (-1), 1) := by decide +kernel
theorem d_PB_billedLine_43 : decode b_PB_billedLine 43 = .ok (.aload_n 0, 1) := by decide +kernel
theorem d_PB_billedLine_44 : decode b_PB_billedLine 44 = .ok (.iload_n 2, 1) := by decide +kernel
theorem d_PB_billedLine_45 : decode b_PB_billedLine 45 = .ok (.invokevirtual 78, 3) := by decide +kernel
theorem d_PB_billedLine_48 : decode b_PB_billedLine 48 = .ok (.ifCond .ne 7, 3) := by decide +kernel
theorem d_PB_billedLine_51 : decode b_PB_billedLine 51 = .ok (.iconst 1, 1) := by decide +kernel
theorem d_PB_billedLine_52 : decode b_PB_billedLine 52 = .ok (.goto 4, 3) := by decide +kernel
theorem d_PB_billedLine_55 : decode b_PB_billedLine 55 = .ok (.iconst 0, 1) := by decide +kernel
theorem d_PB_billedLine_56 : decode b_PB_billedLine 56 = .ok (.invokespecial 155, 3) := by decide +kernel
theorem d_PB_billedLine_59 : decode b_PB_billedLine 59 = .ok (.areturn, 1) := by decide +kernel
theorem d_PB_centsFor_0 : decode b_PB_centsFor 0 = .ok (.iload_n 3, 1) := by decide +kernel
theorem d_PB_centsFor_1 : decode b_PB_centsFor 1 = .ok (.ifCond .ne 5, 3) := by decide +kernel
theorem d_PB_centsFor_4 : decode b_PB_centsFor 4 = .ok (.lconst 0, 1) := by decide +kernel
theorem d_PB_centsFor_5 : decode b_PB_centsFor 5 = .ok (.lreturn, 1) := by decide +kernel
theorem d_PB_centsFor_6 : decode b_PB_centsFor 6 = .ok (.aload_n 0, 1) := by decide +kernel
theorem d_PB_centsFor_7 : decode b_PB_centsFor 7 = .ok (.getfield 18, 3) := by decide +kernel
theorem d_PB_centsFor_10 : decode b_PB_centsFor 10 = .ok (.iload_n 2, 1) := by decide +kernel
theorem d_PB_centsFor_11 : decode b_PB_centsFor 11 = .ok (.aaload, 1) := by decide +kernel
theorem d_PB_centsFor_12 : decode b_PB_centsFor 12 = .ok (.iconst 0, 1) := by decide +kernel
theorem d_PB_centsFor_13 : decode b_PB_centsFor 13 = .ok (.iaload, 1) := by decide +kernel
theorem d_PB_centsFor_14 : decode b_PB_centsFor 14 = .ok (.i2l, 1) := by decide +kernel
theorem d_PB_centsFor_15 : decode b_PB_centsFor 15 = .ok (.iload_n 3, 1) := by decide +kernel
theorem d_PB_centsFor_16 : decode b_PB_centsFor 16 = .ok (.i2l, 1) := by decide +kernel
theorem d_PB_centsFor_17 : decode b_PB_centsFor 17 = .ok (.lmul, 1) := by decide +kernel
theorem d_PB_centsFor_18 : decode b_PB_centsFor 18 = .ok (.aload_n 0, 1) := by decide +kernel
theorem d_PB_centsFor_19 : decode b_PB_centsFor 19 = .ok (.getfield 31, 3) := by decide +kernel
theorem d_PB_centsFor_22 : decode b_PB_centsFor 22 = .ok (.iload_n 1, 1) := by decide +kernel
theorem d_PB_centsFor_23 : decode b_PB_centsFor 23 = .ok (.aaload, 1) := by decide +kernel
theorem d_PB_centsFor_24 : decode b_PB_centsFor 24 = .ok (.iload_n 2, 1) := by decide +kernel
theorem d_PB_centsFor_25 : decode b_PB_centsFor 25 = .ok (.iaload, 1) := by decide +kernel
theorem d_PB_centsFor_26 : decode b_PB_centsFor 26 = .ok (.i2l, 1) := by decide +kernel
theorem d_PB_centsFor_27 : decode b_PB_centsFor 27 = .ok (.lmul, 1) := by decide +kernel
theorem d_PB_centsFor_28 : decode b_PB_centsFor 28 = .ok (.lstore 4, 2) := by decide +kernel
theorem d_PB_centsFor_30 : decode b_PB_centsFor 30 = .ok (.aload_n 0, 1) := by decide +kernel
theorem d_PB_centsFor_31 : decode b_PB_centsFor 31 = .ok (.getfield 18, 3) := by decide +kernel
theorem d_PB_centsFor_34 : decode b_PB_centsFor 34 = .ok (.iload_n 2, 1) := by decide +kernel
theorem d_PB_centsFor_35 : decode b_PB_centsFor 35 = .ok (.aaload, 1) := by decide +kernel
theorem d_PB_centsFor_36 : decode b_PB_centsFor 36 = .ok (.iconst 1, 1) := by decide +kernel
theorem d_PB_centsFor_37 : decode b_PB_centsFor 37 = .ok (.iaload, 1) := by decide +kernel
theorem d_PB_centsFor_38 : decode b_PB_centsFor 38 = .ok (.i2l, 1) := by decide +kernel
theorem d_PB_centsFor_39 : decode b_PB_centsFor 39 = .ok (.aload_n 0, 1) := by decide +kernel
theorem d_PB_centsFor_40 : decode b_PB_centsFor 40 = .ok (.getfield 34, 3) := by decide +kernel
theorem d_PB_centsFor_43 : decode b_PB_centsFor 43 = .ok (.iload_n 1, 1) := by decide +kernel
theorem d_PB_centsFor_44 : decode b_PB_centsFor 44 = .ok (.aaload, 1) := by decide +kernel
theorem d_PB_centsFor_45 : decode b_PB_centsFor 45 = .ok (.iload_n 2, 1) := by decide +kernel
theorem d_PB_centsFor_46 : decode b_PB_centsFor 46 = .ok (.iaload, 1) := by decide +kernel
theorem d_PB_centsFor_47 : decode b_PB_centsFor 47 = .ok (.i2l, 1) := by decide +kernel
theorem d_PB_centsFor_48 : decode b_PB_centsFor 48 = .ok (.lmul, 1) := by decide +kernel
theorem d_PB_centsFor_49 : decode b_PB_centsFor 49 = .ok (.lstore 6, 2) := by decide +kernel
theorem d_PB_centsFor_51 : decode b_PB_centsFor 51 = .ok (.lload 4, 2) := by decide +kernel
theorem d_PB_centsFor_53 : decode b_PB_centsFor 53 = .ok (.lload 6, 2) := by decide +kernel
theorem d_PB_centsFor_55 : decode b_PB_centsFor 55 = .ok (.invokestatic 226, 3) := by decide +kernel
theorem d_PB_centsFor_58 : decode b_PB_centsFor 58 = .ok (.aload_n 0, 1) := by decide +kernel
theorem d_PB_centsFor_59 : decode b_PB_centsFor 59 = .ok (.getfield 18, 3) := by decide +kernel
theorem d_PB_centsFor_62 : decode b_PB_centsFor 62 = .ok (.iload_n 2, 1) := by decide +kernel
theorem d_PB_centsFor_63 : decode b_PB_centsFor 63 = .ok (.aaload, 1) := by decide +kernel
theorem d_PB_centsFor_64 : decode b_PB_centsFor 64 = .ok (.iconst 3, 1) := by decide +kernel
theorem d_PB_centsFor_65 : decode b_PB_centsFor 65 = .ok (.iaload, 1) := by decide +kernel
theorem d_PB_centsFor_66 : decode b_PB_centsFor 66 = .ok (.i2l, 1) := by decide +kernel
theorem d_PB_centsFor_67 : decode b_PB_centsFor 67 = .ok (.invokestatic 229, 3) := by decide +kernel
theorem d_PB_centsFor_70 : decode b_PB_centsFor 70 = .ok (.lreturn, 1) := by decide +kernel
theorem d_PB_owedNow_0 : decode b_PB_owedNow 0 = .ok (.aload_n 0, 1) := by decide +kernel
theorem d_PB_owedNow_1 : decode b_PB_owedNow 1 = .ok (.getfield 44, 3) := by decide +kernel
theorem d_PB_owedNow_4 : decode b_PB_owedNow 4 = .ok (.iload_n 1, 1) := by decide +kernel
theorem d_PB_owedNow_5 : decode b_PB_owedNow 5 = .ok (.laload, 1) := by decide +kernel
theorem d_PB_owedNow_6 : decode b_PB_owedNow 6 = .ok (.lneg, 1) := by decide +kernel
theorem d_PB_owedNow_7 : decode b_PB_owedNow 7 = .ok (.lstore_n 2, 1) := by decide +kernel
theorem d_PB_owedNow_8 : decode b_PB_owedNow 8 = .ok (.iconst 0, 1) := by decide +kernel
theorem d_PB_owedNow_9 : decode b_PB_owedNow 9 = .ok (.istore 4, 2) := by decide +kernel
theorem d_PB_owedNow_11 : decode b_PB_owedNow 11 = .ok (.iload 4, 2) := by decide +kernel
theorem d_PB_owedNow_13 : decode b_PB_owedNow 13 = .ok (.aload_n 0, 1) := by decide +kernel
theorem d_PB_owedNow_14 : decode b_PB_owedNow 14 = .ok (.getfield 40, 3) := by decide +kernel
theorem d_PB_owedNow_17 : decode b_PB_owedNow 17 = .ok (.invokevirtual 109, 3) := by decide +kernel
theorem d_PB_owedNow_20 : decode b_PB_owedNow 20 = .ok (.if_icmp .ge 48, 3) := by decide +kernel
theorem d_PB_owedNow_23 : decode b_PB_owedNow 23 = .ok (.aload_n 0, 1) := by decide +kernel
theorem d_PB_owedNow_24 : decode b_PB_owedNow 24 = .ok (.getfield 40, 3) := by decide +kernel
theorem d_PB_owedNow_27 : decode b_PB_owedNow 27 = .ok (.iload 4, 2) := by decide +kernel
theorem d_PB_owedNow_29 : decode b_PB_owedNow 29 = .ok (.invokevirtual 135, 3) := by decide +kernel
theorem d_PB_owedNow_32 : decode b_PB_owedNow 32 = .ok (.checkcast 139, 3) := by decide +kernel
theorem d_PB_owedNow_35 : decode b_PB_owedNow 35 = .ok (.astore 5, 2) := by decide +kernel
theorem d_PB_owedNow_37 : decode b_PB_owedNow 37 = .ok (.aload 5, 2) := by decide +kernel
theorem d_PB_owedNow_39 : decode b_PB_owedNow 39 = .ok (.getfield 149, 3) := by decide +kernel
theorem d_PB_owedNow_42 : decode b_PB_owedNow 42 = .ok (.iload_n 1, 1) := by decide +kernel
theorem d_PB_owedNow_43 : decode b_PB_owedNow 43 = .ok (.if_icmp .ne 19, 3) := by decide +kernel
theorem d_PB_owedNow_46 : decode b_PB_owedNow 46 = .ok (.aload 5, 2) := by decide +kernel
theorem d_PB_owedNow_48 : decode b_PB_owedNow 48 = .ok (.getfield 158, 3) := by decide +kernel
theorem d_PB_owedNow_51 : decode b_PB_owedNow 51 = .ok (.ifCond .ne 11, 3) := by decide +kernel
theorem d_PB_owedNow_54 : decode b_PB_owedNow 54 = .ok (.lload_n 2, 1) := by decide +kernel
theorem d_PB_owedNow_55 : decode b_PB_owedNow 55 = .ok (.aload 5, 2) := by decide +kernel
theorem d_PB_owedNow_57 : decode b_PB_owedNow 57 = .ok (.getfield 231, 3) := by decide +kernel
theorem d_PB_owedNow_60 : decode b_PB_owedNow 60 = .ok (.ladd, 1) := by decide +kernel
theorem d_PB_owedNow_61 : decode b_PB_owedNow 61 = .ok (.lstore_n 2, 1) := by decide +kernel
theorem d_PB_owedNow_62 : decode b_PB_owedNow 62 = .ok (.iinc 4 1, 3) := by decide +kernel
theorem d_PB_owedNow_65 : decode b_PB_owedNow 65 = .ok (.goto (-54), 3) := by decide +kernel
theorem d_PB_owedNow_68 : decode b_PB_owedNow 68 = .ok (.lload_n 2, 1) := by decide +kernel
theorem d_PB_owedNow_69 : decode b_PB_owedNow 69 = .ok (.lreturn, 1) := by decide +kernel
theorem d_PB_linesOf_0 : decode b_PB_linesOf 0 = .ok (.iconst 0, 1) := by decide +kernel
theorem d_PB_linesOf_1 : decode b_PB_linesOf 1 = .ok (.istore_n 2, 1) := by decide +kernel
theorem d_PB_linesOf_2 : decode b_PB_linesOf 2 = .ok (.iconst 0, 1) := by decide +kernel
theorem d_PB_linesOf_3 : decode b_PB_linesOf 3 = .ok (.istore_n 3, 1) := by decide +kernel
theorem d_PB_linesOf_4 : decode b_PB_linesOf 4 = .ok (.iload_n 3, 1) := by decide +kernel
theorem d_PB_linesOf_5 : decode b_PB_linesOf 5 = .ok (.aload_n 0, 1) := by decide +kernel
theorem d_PB_linesOf_6 : decode b_PB_linesOf 6 = .ok (.getfield 40, 3) := by decide +kernel
theorem d_PB_linesOf_9 : decode b_PB_linesOf 9 = .ok (.invokevirtual 109, 3) := by decide +kernel
theorem d_PB_linesOf_12 : decode b_PB_linesOf 12 = .ok (.if_icmp .ge 30, 3) := by decide +kernel
theorem d_PB_linesOf_15 : decode b_PB_linesOf 15 = .ok (.aload_n 0, 1) := by decide +kernel
theorem d_PB_linesOf_16 : decode b_PB_linesOf 16 = .ok (.getfield 40, 3) := by decide +kernel
theorem d_PB_linesOf_19 : decode b_PB_linesOf 19 = .ok (.iload_n 3, 1) := by decide +kernel
theorem d_PB_linesOf_20 : decode b_PB_linesOf 20 = .ok (.invokevirtual 135, 3) := by decide +kernel
theorem d_PB_linesOf_23 : decode b_PB_linesOf 23 = .ok (.checkcast 139, 3) := by decide +kernel
theorem d_PB_linesOf_26 : decode b_PB_linesOf 26 = .ok (.getfield 149, 3) := by decide +kernel
theorem d_PB_linesOf_29 : decode b_PB_linesOf 29 = .ok (.iload_n 1, 1) := by decide +kernel
theorem d_PB_linesOf_30 : decode b_PB_linesOf 30 = .ok (.if_icmp .ne 6, 3) := by decide +kernel
theorem d_PB_linesOf_33 : decode b_PB_linesOf 33 = .ok (.iinc 2 1, 3) := by decide +kernel
theorem d_PB_linesOf_36 : decode b_PB_linesOf 36 = .ok (.iinc 3 1, 3) := by decide +kernel
theorem d_PB_linesOf_39 : decode b_PB_linesOf 39 = .ok (.goto (-35), 3) := by decide +kernel
theorem d_PB_linesOf_42 : decode b_PB_linesOf 42 = .ok (.iload_n 2, 1) := by decide +kernel
theorem d_PB_linesOf_43 : decode b_PB_linesOf 43 = .ok (.ireturn, 1) := by decide +kernel
theorem d_PB_begunUnits_0 : decode b_PB_begunUnits 0 = .ok (.iload_n 0, 1) := by decide +kernel
theorem d_PB_begunUnits_1 : decode b_PB_begunUnits 1 = .ok (.iconst 1, 1) := by decide +kernel
theorem d_PB_begunUnits_2 : decode b_PB_begunUnits 2 = .ok (.isub, 1) := by decide +kernel
theorem d_PB_begunUnits_3 : decode b_PB_begunUnits 3 = .ok (.i2l, 1) := by decide +kernel
theorem d_PB_begunUnits_4 : decode b_PB_begunUnits 4 = .ok (.iload_n 1, 1) := by decide +kernel
theorem d_PB_begunUnits_5 : decode b_PB_begunUnits 5 = .ok (.i2l, 1) := by decide +kernel
theorem d_PB_begunUnits_6 : decode b_PB_begunUnits 6 = .ok (.invokestatic 183, 3) := by decide +kernel
theorem d_PB_begunUnits_9 : decode b_PB_begunUnits 9 = .ok (.l2i, 1) := by decide +kernel
theorem d_PB_begunUnits_10 : decode b_PB_begunUnits 10 = .ok (.iconst 1, 1) := by decide +kernel
theorem d_PB_begunUnits_11 : decode b_PB_begunUnits 11 = .ok (.iadd, 1) := by decide +kernel
theorem d_PB_begunUnits_12 : decode b_PB_begunUnits 12 = .ok (.ireturn, 1) := by decide +kernel
theorem d_PB_roundedHalfUp_0 : decode b_PB_roundedHalfUp 0 = .ok (.lload_n 0, 1) := by decide +kernel
theorem d_PB_roundedHalfUp_1 : decode b_PB_roundedHalfUp 1 = .ok (.lload_n 2, 1) := by decide +kernel
theorem d_PB_roundedHalfUp_2 : decode b_PB_roundedHalfUp 2 = .ok (.invokestatic 183, 3) := by decide +kernel
theorem d_PB_roundedHalfUp_5 : decode b_PB_roundedHalfUp 5 = .ok (.lstore 4, 2) := by decide +kernel
theorem d_PB_roundedHalfUp_7 : decode b_PB_roundedHalfUp 7 = .ok (.lload_n 0, 1) := by decide +kernel
theorem d_PB_roundedHalfUp_8 : decode b_PB_roundedHalfUp 8 = .ok (.lload 4, 2) := by decide +kernel
theorem d_PB_roundedHalfUp_10 : decode b_PB_roundedHalfUp 10 = .ok (.lload_n 2, 1) := by decide +kernel
theorem d_PB_roundedHalfUp_11 : decode b_PB_roundedHalfUp 11 = .ok (.lmul, 1) := by decide +kernel
theorem d_PB_roundedHalfUp_12 : decode b_PB_roundedHalfUp 12 = .ok (.lsub, 1) := by decide +kernel
theorem d_PB_roundedHalfUp_13 : decode b_PB_roundedHalfUp 13 = .ok (.lstore 6, 2) := by decide +kernel
theorem d_PB_roundedHalfUp_15 : decode b_PB_roundedHalfUp 15 = .ok (.ldc2_w 234, 3) := by decide +kernel
theorem d_PB_roundedHalfUp_18 : decode b_PB_roundedHalfUp 18 = .ok (.lload 6, 2) := by decide +kernel
theorem d_PB_roundedHalfUp_20 : decode b_PB_roundedHalfUp 20 = .ok (.lmul, 1) := by decide +kernel
theorem d_PB_roundedHalfUp_21 : decode b_PB_roundedHalfUp 21 = .ok (.lload_n 2, 1) := by decide +kernel
theorem d_PB_roundedHalfUp_22 : decode b_PB_roundedHalfUp 22 = .ok (.lcmp, 1) := by decide +kernel
theorem d_PB_roundedHalfUp_23 : decode b_PB_roundedHalfUp 23 = .ok (.ifCond .lt 10, 3) := by decide +kernel
theorem d_PB_roundedHalfUp_26 : decode b_PB_roundedHalfUp 26 = .ok (.lload 4, 2) := by decide +kernel
theorem d_PB_roundedHalfUp_28 : decode b_PB_roundedHalfUp 28 = .ok (.lconst 1, 1) := by decide +kernel
theorem d_PB_roundedHalfUp_29 : decode b_PB_roundedHalfUp 29 = .ok (.ladd, 1) := by decide +kernel
theorem d_PB_roundedHalfUp_30 : decode b_PB_roundedHalfUp 30 = .ok (.goto 5, 3) := by decide +kernel
theorem d_PB_roundedHalfUp_33 : decode b_PB_roundedHalfUp 33 = .ok (.lload 4, 2) := by decide +kernel
theorem d_PB_roundedHalfUp_35 : decode b_PB_roundedHalfUp 35 = .ok (.lreturn, 1) := by decide +kernel
theorem d_PB_quotient_0 : decode b_PB_quotient 0 = .ok (.lload_n 2, 1) := by decide +kernel
theorem d_PB_quotient_1 : decode b_PB_quotient 1 = .ok (.lconst 1, 1) := by decide +kernel
theorem d_PB_quotient_2 : decode b_PB_quotient 2 = .ok (.lcmp, 1) := by decide +kernel
theorem d_PB_quotient_3 : decode b_PB_quotient 3 = .ok (.ifCond .ge 7, 3) := by decide +kernel
theorem d_PB_quotient_6 : decode b_PB_quotient 6 = .ok (.lconst 0, 1) := by decide +kernel
theorem d_PB_quotient_7 : decode b_PB_quotient 7 = .ok (.goto 6, 3) := by decide +kernel
theorem d_PB_quotient_10 : decode b_PB_quotient 10 = .ok (.lload_n 0, 1) := by decide +kernel
theorem d_PB_quotient_11 : decode b_PB_quotient 11 = .ok (.lload_n 2, 1) := by decide +kernel
theorem d_PB_quotient_12 : decode b_PB_quotient 12 = .ok (.ldiv, 1) := by decide +kernel
theorem d_PB_quotient_13 : decode b_PB_quotient 13 = .ok (.lreturn, 1) := by decide +kernel
theorem d_LN_init_0 : decode b_LN_init 0 = .ok (.aload_n 0, 1) := by decide +kernel
theorem d_LN_init_1 : decode b_LN_init 1 = .ok (.invokespecial 3, 3) := by decide +kernel
theorem d_LN_init_4 : decode b_LN_init 4 = .ok (.aload_n 0, 1) := by decide +kernel
theorem d_LN_init_5 : decode b_LN_init 5 = .ok (.iload_n 1, 1) := by decide +kernel
theorem d_LN_init_6 : decode b_LN_init 6 = .ok (.putfield 9, 3) := by decide +kernel
theorem d_LN_init_9 : decode b_LN_init 9 = .ok (.aload_n 0, 1) := by decide +kernel
theorem d_LN_init_10 : decode b_LN_init 10 = .ok (.iload_n 2, 1) := by decide +kernel
theorem d_LN_init_11 : decode b_LN_init 11 = .ok (.putfield 15, 3) := by decide +kernel
theorem d_LN_init_14 : decode b_LN_init 14 = .ok (.aload_n 0, 1) := by decide +kernel
theorem d_LN_init_15 : decode b_LN_init 15 = .ok (.iload_n 3, 1) := by decide +kernel
theorem d_LN_init_16 : decode b_LN_init 16 = .ok (.putfield 18, 3) := by decide +kernel
theorem d_LN_init_19 : decode b_LN_init 19 = .ok (.aload_n 0, 1) := by decide +kernel
theorem d_LN_init_20 : decode b_LN_init 20 = .ok (.iload 4, 2) := by decide +kernel
theorem d_LN_init_22 : decode b_LN_init 22 = .ok (.putfield 21, 3) := by decide +kernel
theorem d_LN_init_25 : decode b_LN_init 25 = .ok (.aload_n 0, 1) := by decide +kernel
theorem d_LN_init_26 : decode b_LN_init 26 = .ok (.lload 5, 2) := by decide +kernel
theorem d_LN_init_28 : decode b_LN_init 28 = .ok (.putfield 24, 3) := by decide +kernel
theorem d_LN_init_31 : decode b_LN_init 31 = .ok (.aload_n 0, 1) := by decide +kernel
theorem d_LN_init_32 : decode b_LN_init 32 = .ok (.iload 7, 2) := by decide +kernel
theorem d_LN_init_34 : decode b_LN_init 34 = .ok (.putfield 28, 3) := by decide +kernel
theorem d_LN_init_37 : decode b_LN_init 37 = .ok (.aload_n 0, 1) := by decide +kernel
theorem d_LN_init_38 : decode b_LN_init 38 = .ok (.iload 8, 2) := by decide +kernel
theorem d_LN_init_40 : decode b_LN_init 40 = .ok (.putfield 31, 3) := by decide +kernel
theorem d_LN_init_43 : decode b_LN_init 43 = .ok (.aload_n 0, 1) := by decide +kernel
theorem d_LN_init_44 : decode b_LN_init 44 = .ok (.lload 5, 2) := by decide +kernel
theorem d_LN_init_46 : decode b_LN_init 46 = .ok (.putfield 35, 3) := by decide +kernel
theorem d_LN_init_49 : decode b_LN_init 49 = .ok (.return_, 1) := by decide +kernel
theorem d_LN_isCorrection_0 : decode b_LN_isCorrection 0 = .ok (.aload_n 0, 1) := by decide +kernel
theorem d_LN_isCorrection_1 : decode b_LN_isCorrection 1 = .ok (.getfield 28, 3) := by decide +kernel
theorem d_LN_isCorrection_4 : decode b_LN_isCorrection 4 = .ok (.iconst (-1), 1) := by decide +kernel
theorem d_LN_isCorrection_5 : decode b_LN_isCorrection 5 = .ok (.if_icmp .eq 7, 3) := by decide +kernel
theorem d_LN_isCorrection_8 : decode b_LN_isCorrection 8 = .ok (.iconst 1, 1) := by decide +kernel
theorem d_LN_isCorrection_9 : decode b_LN_isCorrection 9 = .ok (.goto 4, 3) := by decide +kernel
theorem d_LN_isCorrection_12 : decode b_LN_isCorrection 12 = .ok (.iconst 0, 1) := by decide +kernel
theorem d_LN_isCorrection_13 : decode b_LN_isCorrection 13 = .ok (.ireturn, 1) := by decide +kernel
theorem d_LN_part_0 : decode b_LN_part 0 = .ok (.iload_n 1, 1) := by decide +kernel
theorem d_LN_part_1 : decode b_LN_part 1 = .ok (.tableswitch 108 0 7 #[47, 53, 59, 65, 71, 76, 82, 95], 47) := by decide +kernel
theorem d_LN_part_48 : decode b_LN_part 48 = .ok (.aload_n 0, 1) := by decide +kernel
theorem d_LN_part_49 : decode b_LN_part 49 = .ok (.getfield 9, 3) := by decide +kernel
theorem d_LN_part_52 : decode b_LN_part 52 = .ok (.i2l, 1) := by decide +kernel
theorem d_LN_part_53 : decode b_LN_part 53 = .ok (.lreturn, 1) := by decide +kernel
theorem d_LN_part_54 : decode b_LN_part 54 = .ok (.aload_n 0, 1) := by decide +kernel
theorem d_LN_part_55 : decode b_LN_part 55 = .ok (.getfield 15, 3) := by decide +kernel
theorem d_LN_part_58 : decode b_LN_part 58 = .ok (.i2l, 1) := by decide +kernel
theorem d_LN_part_59 : decode b_LN_part 59 = .ok (.lreturn, 1) := by decide +kernel
theorem d_LN_part_60 : decode b_LN_part 60 = .ok (.aload_n 0, 1) := by decide +kernel
theorem d_LN_part_61 : decode b_LN_part 61 = .ok (.getfield 18, 3) := by decide +kernel
theorem d_LN_part_64 : decode b_LN_part 64 = .ok (.i2l, 1) := by decide +kernel
theorem d_LN_part_65 : decode b_LN_part 65 = .ok (.lreturn, 1) := by decide +kernel
theorem d_LN_part_66 : decode b_LN_part 66 = .ok (.aload_n 0, 1) := by decide +kernel
theorem d_LN_part_67 : decode b_LN_part 67 = .ok (.getfield 21, 3) := by decide +kernel
theorem d_LN_part_70 : decode b_LN_part 70 = .ok (.i2l, 1) := by decide +kernel
theorem d_LN_part_71 : decode b_LN_part 71 = .ok (.lreturn, 1) := by decide +kernel
theorem d_LN_part_72 : decode b_LN_part 72 = .ok (.aload_n 0, 1) := by decide +kernel
theorem d_LN_part_73 : decode b_LN_part 73 = .ok (.getfield 24, 3) := by decide +kernel
theorem d_LN_part_76 : decode b_LN_part 76 = .ok (.lreturn, 1) := by decide +kernel
theorem d_LN_part_77 : decode b_LN_part 77 = .ok (.aload_n 0, 1) := by decide +kernel
theorem d_LN_part_78 : decode b_LN_part 78 = .ok (.getfield 28, 3) := by decide +kernel
theorem d_LN_part_81 : decode b_LN_part 81 = .ok (.i2l, 1) := by decide +kernel
theorem d_LN_part_82 : decode b_LN_part 82 = .ok (.lreturn, 1) := by decide +kernel
theorem d_LN_part_83 : decode b_LN_part 83 = .ok (.aload_n 0, 1) := by decide +kernel
theorem d_LN_part_84 : decode b_LN_part 84 = .ok (.getfield 38, 3) := by decide +kernel
theorem d_LN_part_87 : decode b_LN_part 87 = .ok (.ifCond .eq 7, 3) := by decide +kernel
theorem d_LN_part_90 : decode b_LN_part 90 = .ok (.lconst 1, 1) := by decide +kernel
theorem d_LN_part_91 : decode b_LN_part 91 = .ok (.goto 4, 3) := by decide +kernel
theorem d_LN_part_94 : decode b_LN_part 94 = .ok (.lconst 0, 1) := by decide +kernel
theorem d_LN_part_95 : decode b_LN_part 95 = .ok (.lreturn, 1) := by decide +kernel
theorem d_LN_part_96 : decode b_LN_part 96 = .ok (.aload_n 0, 1) := by decide +kernel
theorem d_LN_part_97 : decode b_LN_part 97 = .ok (.getfield 31, 3) := by decide +kernel
theorem d_LN_part_100 : decode b_LN_part 100 = .ok (.ifCond .eq 7, 3) := by decide +kernel
theorem d_LN_part_103 : decode b_LN_part 103 = .ok (.lconst 1, 1) := by decide +kernel
theorem d_LN_part_104 : decode b_LN_part 104 = .ok (.goto 4, 3) := by decide +kernel
theorem d_LN_part_107 : decode b_LN_part 107 = .ok (.lconst 0, 1) := by decide +kernel
theorem d_LN_part_108 : decode b_LN_part 108 = .ok (.lreturn, 1) := by decide +kernel
theorem d_LN_part_109 : decode b_LN_part 109 = .ok (.aload_n 0, 1) := by decide +kernel
theorem d_LN_part_110 : decode b_LN_part 110 = .ok (.getfield 35, 3) := by decide +kernel
theorem d_LN_part_113 : decode b_LN_part 113 = .ok (.lreturn, 1) := by decide +kernel
theorem d_TT_init_0 : decode b_TT_init 0 = .ok (.aload_n 0, 1) := by decide +kernel
theorem d_TT_init_1 : decode b_TT_init 1 = .ok (.invokespecial 3, 3) := by decide +kernel
theorem d_TT_init_4 : decode b_TT_init 4 = .ok (.aload_n 0, 1) := by decide +kernel
theorem d_TT_init_5 : decode b_TT_init 5 = .ok (.bipush 120, 2) := by decide +kernel
theorem d_TT_init_7 : decode b_TT_init 7 = .ok (.newarray .char, 2) := by decide +kernel
theorem d_TT_init_9 : decode b_TT_init 9 = .ok (.putfield 11, 3) := by decide +kernel
theorem d_TT_init_12 : decode b_TT_init 12 = .ok (.aload_n 0, 1) := by decide +kernel
theorem d_TT_init_13 : decode b_TT_init 13 = .ok (.bipush 6, 2) := by decide +kernel
theorem d_TT_init_15 : decode b_TT_init 15 = .ok (.iconst 4, 1) := by decide +kernel
theorem d_TT_init_16 : decode b_TT_init 16 = .ok (.multianewarray 15 2, 4) := by decide +kernel
theorem d_TT_init_20 : decode b_TT_init 20 = .ok (.putfield 17, 3) := by decide +kernel
theorem d_TT_init_23 : decode b_TT_init 23 = .ok (.return_, 1) := by decide +kernel
theorem d_TT_takes_0 : decode b_TT_takes 0 = .ok (.iload_n 1, 1) := by decide +kernel
theorem d_TT_takes_1 : decode b_TT_takes 1 = .ok (.bipush 33, 2) := by decide +kernel
theorem d_TT_takes_3 : decode b_TT_takes 3 = .ok (.if_icmp .lt 18, 3) := by decide +kernel
theorem d_TT_takes_6 : decode b_TT_takes 6 = .ok (.iload_n 1, 1) := by decide +kernel
theorem d_TT_takes_7 : decode b_TT_takes 7 = .ok (.bipush 126, 2) := by decide +kernel
theorem d_TT_takes_9 : decode b_TT_takes 9 = .ok (.if_icmp .gt 12, 3) := by decide +kernel
theorem d_TT_takes_12 : decode b_TT_takes 12 = .ok (.aload_n 0, 1) := by decide +kernel
theorem d_TT_takes_13 : decode b_TT_takes 13 = .ok (.getfield 20, 3) := by decide +kernel
theorem d_TT_takes_16 : decode b_TT_takes 16 = .ok (.bipush 120, 2) := by decide +kernel
theorem d_TT_takes_18 : decode b_TT_takes 18 = .ok (.if_icmp .lt 5, 3) := by decide +kernel
theorem d_TT_takes_21 : decode b_TT_takes 21 = .ok (.iconst 0, 1) := by decide +kernel
theorem d_TT_takes_22 : decode b_TT_takes 22 = .ok (.ireturn, 1) := by decide +kernel
theorem d_TT_takes_23 : decode b_TT_takes 23 = .ok (.aload_n 0, 1) := by decide +kernel
theorem d_TT_takes_24 : decode b_TT_takes 24 = .ok (.getfield 11, 3) := by decide +kernel
theorem d_TT_takes_27 : decode b_TT_takes 27 = .ok (.aload_n 0, 1) := by decide +kernel
theorem d_TT_takes_28 : decode b_TT_takes 28 = .ok (.getfield 20, 3) := by decide +kernel
theorem d_TT_takes_31 : decode b_TT_takes 31 = .ok (.iload_n 1, 1) := by decide +kernel
theorem d_TT_takes_32 : decode b_TT_takes 32 = .ok (.i2c, 1) := by decide +kernel
theorem d_TT_takes_33 : decode b_TT_takes 33 = .ok (.castore, 1) := by decide +kernel
theorem d_TT_takes_34 : decode b_TT_takes 34 = .ok (.aload_n 0, 1) := by decide +kernel
theorem d_TT_takes_35 : decode b_TT_takes 35 = .ok (.dup, 1) := by decide +kernel
theorem d_TT_takes_36 : decode b_TT_takes 36 = .ok (.getfield 20, 3) := by decide +kernel
theorem d_TT_takes_39 : decode b_TT_takes 39 = .ok (.iconst 1, 1) := by decide +kernel
theorem d_TT_takes_40 : decode b_TT_takes 40 = .ok (.iadd, 1) := by decide +kernel
theorem d_TT_takes_41 : decode b_TT_takes 41 = .ok (.putfield 20, 3) := by decide +kernel
theorem d_TT_takes_44 : decode b_TT_takes 44 = .ok (.iconst 1, 1) := by decide +kernel
theorem d_TT_takes_45 : decode b_TT_takes 45 = .ok (.ireturn, 1) := by decide +kernel
theorem d_TT_clear_0 : decode b_TT_clear 0 = .ok (.aload_n 0, 1) := by decide +kernel
theorem d_TT_clear_1 : decode b_TT_clear 1 = .ok (.iconst 0, 1) := by decide +kernel
theorem d_TT_clear_2 : decode b_TT_clear 2 = .ok (.putfield 20, 3) := by decide +kernel
theorem d_TT_clear_5 : decode b_TT_clear 5 = .ok (.return_, 1) := by decide +kernel
theorem d_TT_readRows_0 : decode b_TT_readRows 0 = .ok (.aload_n 0, 1) := by decide +kernel
theorem d_TT_readRows_1 : decode b_TT_readRows 1 = .ok (.iconst 0, 1) := by decide +kernel
theorem d_TT_readRows_2 : decode b_TT_readRows 2 = .ok (.putfield 24, 3) := by decide +kernel
theorem d_TT_readRows_5 : decode b_TT_readRows 5 = .ok (.aload_n 0, 1) := by decide +kernel
theorem d_TT_readRows_6 : decode b_TT_readRows 6 = .ok (.iconst 0, 1) := by decide +kernel
theorem d_TT_readRows_7 : decode b_TT_readRows 7 = .ok (.putfield 27, 3) := by decide +kernel
theorem d_TT_readRows_10 : decode b_TT_readRows 10 = .ok (.iconst 0, 1) := by decide +kernel
theorem d_TT_readRows_11 : decode b_TT_readRows 11 = .ok (.istore_n 1, 1) := by decide +kernel
theorem d_TT_readRows_12 : decode b_TT_readRows 12 = .ok (.iload_n 1, 1) := by decide +kernel
theorem d_TT_readRows_13 : decode b_TT_readRows 13 = .ok (.bipush 40, 2) := by decide +kernel
theorem d_TT_readRows_15 : decode b_TT_readRows 15 = .ok (.if_icmp .ge 26, 3) := by decide +kernel
theorem d_TT_readRows_18 : decode b_TT_readRows 18 = .ok (.aload_n 0, 1) := by decide +kernel
theorem d_TT_readRows_19 : decode b_TT_readRows 19 = .ok (.invokevirtual 30, 3) := by decide +kernel
theorem d_TT_readRows_22 : decode b_TT_readRows 22 = .ok (.ifCond .eq 19, 3) := by decide +kernel
theorem d_TT_readRows_25 : decode b_TT_readRows 25 = .ok (.iinc 1 1, 3) := by decide +kernel
theorem d_TT_readRows_28 : decode b_TT_readRows 28 = .ok (.aload_n 0, 1) := by decide +kernel
theorem d_TT_readRows_29 : decode b_TT_readRows 29 = .ok (.getfield 24, 3) := by decide +kernel
theorem d_TT_readRows_32 : decode b_TT_readRows 32 = .ok (.aload_n 0, 1) := by decide +kernel
theorem d_TT_readRows_33 : decode b_TT_readRows 33 = .ok (.getfield 20, 3) := by decide +kernel
theorem d_TT_readRows_36 : decode b_TT_readRows 36 = .ok (.if_icmp .ne (-24), 3) := by decide +kernel
theorem d_TT_readRows_39 : decode b_TT_readRows 39 = .ok (.iload_n 1, 1) := by decide +kernel
theorem d_TT_readRows_40 : decode b_TT_readRows 40 = .ok (.ireturn, 1) := by decide +kernel
theorem d_TT_readRows_41 : decode b_TT_readRows 41 = .ok (.iconst (-1), 1) := by decide +kernel
theorem d_TT_readRows_42 : decode b_TT_readRows 42 = .ok (.aload_n 0, 1) := by decide +kernel
theorem d_TT_readRows_43 : decode b_TT_readRows 43 = .ok (.getfield 24, 3) := by decide +kernel
theorem d_TT_readRows_46 : decode b_TT_readRows 46 = .ok (.isub, 1) := by decide +kernel
theorem d_TT_readRows_47 : decode b_TT_readRows 47 = .ok (.ireturn, 1) := by decide +kernel
theorem d_TT_readRow_0 : decode b_TT_readRow 0 = .ok (.aload_n 0, 1) := by decide +kernel
theorem d_TT_readRow_1 : decode b_TT_readRow 1 = .ok (.invokevirtual 34, 3) := by decide +kernel
theorem d_TT_readRow_4 : decode b_TT_readRow 4 = .ok (.bipush 65, 2) := by decide +kernel
theorem d_TT_readRow_6 : decode b_TT_readRow 6 = .ok (.isub, 1) := by decide +kernel
theorem d_TT_readRow_7 : decode b_TT_readRow 7 = .ok (.istore_n 1, 1) := by decide +kernel
theorem d_TT_readRow_8 : decode b_TT_readRow 8 = .ok (.iload_n 1, 1) := by decide +kernel
theorem d_TT_readRow_9 : decode b_TT_readRow 9 = .ok (.invokestatic 38, 3) := by decide +kernel
theorem d_TT_readRow_12 : decode b_TT_readRow 12 = .ok (.ifCond .ne 5, 3) := by decide +kernel
theorem d_TT_readRow_15 : decode b_TT_readRow 15 = .ok (.iconst 0, 1) := by decide +kernel
theorem d_TT_readRow_16 : decode b_TT_readRow 16 = .ok (.ireturn, 1) := by decide +kernel
theorem d_TT_readRow_17 : decode b_TT_readRow 17 = .ok (.aload_n 0, 1) := by decide +kernel
theorem d_TT_readRow_18 : decode b_TT_readRow 18 = .ok (.dup, 1) := by decide +kernel
theorem d_TT_readRow_19 : decode b_TT_readRow 19 = .ok (.getfield 24, 3) := by decide +kernel
theorem d_TT_readRow_22 : decode b_TT_readRow 22 = .ok (.iconst 1, 1) := by decide +kernel
theorem d_TT_readRow_23 : decode b_TT_readRow 23 = .ok (.iadd, 1) := by decide +kernel
theorem d_TT_readRow_24 : decode b_TT_readRow 24 = .ok (.putfield 24, 3) := by decide +kernel
theorem d_TT_readRow_27 : decode b_TT_readRow 27 = .ok (.aload_n 0, 1) := by decide +kernel
theorem d_TT_readRow_28 : decode b_TT_readRow 28 = .ok (.dup, 1) := by decide +kernel
theorem d_TT_readRow_29 : decode b_TT_readRow 29 = .ok (.getfield 27, 3) := by decide +kernel
theorem d_TT_readRow_32 : decode b_TT_readRow 32 = .ok (.iconst 1, 1) := by decide +kernel
theorem d_TT_readRow_33 : decode b_TT_readRow 33 = .ok (.iload_n 1, 1) := by decide +kernel
theorem d_TT_readRow_34 : decode b_TT_readRow 34 = .ok (.ishl, 1) := by decide +kernel
theorem d_TT_readRow_35 : decode b_TT_readRow 35 = .ok (.ior, 1) := by decide +kernel
theorem d_TT_readRow_36 : decode b_TT_readRow 36 = .ok (.putfield 27, 3) := by decide +kernel
theorem d_TT_readRow_39 : decode b_TT_readRow 39 = .ok (.aload_n 0, 1) := by decide +kernel
theorem d_TT_readRow_40 : decode b_TT_readRow 40 = .ok (.getfield 17, 3) := by decide +kernel
theorem d_TT_readRow_43 : decode b_TT_readRow 43 = .ok (.iload_n 1, 1) := by decide +kernel
theorem d_TT_readRow_44 : decode b_TT_readRow 44 = .ok (.aaload, 1) := by decide +kernel
theorem d_TT_readRow_45 : decode b_TT_readRow 45 = .ok (.astore_n 2, 1) := by decide +kernel
theorem d_TT_readRow_46 : decode b_TT_readRow 46 = .ok (.aload_n 2, 1) := by decide +kernel
theorem d_TT_readRow_47 : decode b_TT_readRow 47 = .ok (.iconst 1, 1) := by decide +kernel
theorem d_TT_readRow_48 : decode b_TT_readRow 48 = .ok (.iconst 1, 1) := by decide +kernel
theorem d_TT_readRow_49 : decode b_TT_readRow 49 = .ok (.iastore, 1) := by decide +kernel
theorem d_TT_readRow_50 : decode b_TT_readRow 50 = .ok (.aload_n 2, 1) := by decide +kernel
theorem d_TT_readRow_51 : decode b_TT_readRow 51 = .ok (.iconst 2, 1) := by decide +kernel
theorem d_TT_readRow_52 : decode b_TT_readRow 52 = .ok (.iconst 0, 1) := by decide +kernel
theorem d_TT_readRow_53 : decode b_TT_readRow 53 = .ok (.iastore, 1) := by decide +kernel
theorem d_TT_readRow_54 : decode b_TT_readRow 54 = .ok (.aload_n 2, 1) := by decide +kernel
theorem d_TT_readRow_55 : decode b_TT_readRow 55 = .ok (.iconst 3, 1) := by decide +kernel
theorem d_TT_readRow_56 : decode b_TT_readRow 56 = .ok (.iconst 0, 1) := by decide +kernel
theorem d_TT_readRow_57 : decode b_TT_readRow 57 = .ok (.iastore, 1) := by decide +kernel
theorem d_TT_readRow_58 : decode b_TT_readRow 58 = .ok (.aload_n 0, 1) := by decide +kernel
theorem d_TT_readRow_59 : decode b_TT_readRow 59 = .ok (.aload_n 2, 1) := by decide +kernel
theorem d_TT_readRow_60 : decode b_TT_readRow 60 = .ok (.iconst 0, 1) := by decide +kernel
theorem d_TT_readRow_61 : decode b_TT_readRow 61 = .ok (.bipush 6, 2) := by decide +kernel
theorem d_TT_readRow_63 : decode b_TT_readRow 63 = .ok (.invokevirtual 42, 3) := by decide +kernel
theorem d_TT_readRow_66 : decode b_TT_readRow 66 = .ok (.ifCond .eq 80, 3) := by decide +kernel
theorem d_TT_readRow_69 : decode b_TT_readRow 69 = .ok (.aload_n 0, 1) := by decide +kernel
theorem d_TT_readRow_70 : decode b_TT_readRow 70 = .ok (.bipush 47, 2) := by decide +kernel
theorem d_TT_readRow_72 : decode b_TT_readRow 72 = .ok (.invokevirtual 46, 3) := by decide +kernel
theorem d_TT_readRow_75 : decode b_TT_readRow 75 = .ok (.ifCond .eq 19, 3) := by decide +kernel
theorem d_TT_readRow_78 : decode b_TT_readRow 78 = .ok (.aload_n 0, 1) := by decide +kernel
theorem d_TT_readRow_79 : decode b_TT_readRow 79 = .ok (.aload_n 2, 1) := by decide +kernel
theorem d_TT_readRow_80 : decode b_TT_readRow 80 = .ok (.iconst 1, 1) := by decide +kernel
theorem d_TT_readRow_81 : decode b_TT_readRow 81 = .ok (.iconst 4, 1) := by decide +kernel
theorem d_TT_readRow_82 : decode b_TT_readRow 82 = .ok (.invokevirtual 42, 3) := by decide +kernel
theorem d_TT_readRow_85 : decode b_TT_readRow 85 = .ok (.ifCond .eq 61, 3) := by decide +kernel
theorem d_TT_readRow_88 : decode b_TT_readRow 88 = .ok (.aload_n 2, 1) := by decide +kernel
theorem d_TT_readRow_89 : decode b_TT_readRow 89 = .ok (.iconst 1, 1) := by decide +kernel
theorem d_TT_readRow_90 : decode b_TT_readRow 90 = .ok (.iaload, 1) := by decide +kernel
theorem d_TT_readRow_91 : decode b_TT_readRow 91 = .ok (.ifCond .le 55, 3) := by decide +kernel
theorem d_TT_readRow_94 : decode b_TT_readRow 94 = .ok (.aload_n 0, 1) := by decide +kernel
theorem d_TT_readRow_95 : decode b_TT_readRow 95 = .ok (.bipush 45, 2) := by decide +kernel
theorem d_TT_readRow_97 : decode b_TT_readRow 97 = .ok (.invokevirtual 46, 3) := by decide +kernel
theorem d_TT_readRow_100 : decode b_TT_readRow 100 = .ok (.ifCond .eq 13, 3) := by decide +kernel
theorem d_TT_readRow_103 : decode b_TT_readRow 103 = .ok (.aload_n 0, 1) := by decide +kernel
theorem d_TT_readRow_104 : decode b_TT_readRow 104 = .ok (.aload_n 2, 1) := by decide +kernel
theorem d_TT_readRow_105 : decode b_TT_readRow 105 = .ok (.iconst 2, 1) := by decide +kernel
theorem d_TT_readRow_106 : decode b_TT_readRow 106 = .ok (.iconst 4, 1) := by decide +kernel
theorem d_TT_readRow_107 : decode b_TT_readRow 107 = .ok (.invokevirtual 42, 3) := by decide +kernel
theorem d_TT_readRow_110 : decode b_TT_readRow 110 = .ok (.ifCond .eq 36, 3) := by decide +kernel
theorem d_TT_readRow_113 : decode b_TT_readRow 113 = .ok (.aload_n 0, 1) := by decide +kernel
theorem d_TT_readRow_114 : decode b_TT_readRow 114 = .ok (.bipush 62, 2) := by decide +kernel
theorem d_TT_readRow_116 : decode b_TT_readRow 116 = .ok (.invokevirtual 46, 3) := by decide +kernel
theorem d_TT_readRow_119 : decode b_TT_readRow 119 = .ok (.ifCond .eq 14, 3) := by decide +kernel
theorem d_TT_readRow_122 : decode b_TT_readRow 122 = .ok (.aload_n 0, 1) := by decide +kernel
theorem d_TT_readRow_123 : decode b_TT_readRow 123 = .ok (.aload_n 2, 1) := by decide +kernel
theorem d_TT_readRow_124 : decode b_TT_readRow 124 = .ok (.iconst 3, 1) := by decide +kernel
theorem d_TT_readRow_125 : decode b_TT_readRow 125 = .ok (.bipush 6, 2) := by decide +kernel
theorem d_TT_readRow_127 : decode b_TT_readRow 127 = .ok (.invokevirtual 42, 3) := by decide +kernel
theorem d_TT_readRow_130 : decode b_TT_readRow 130 = .ok (.ifCond .eq 16, 3) := by decide +kernel
theorem d_TT_readRow_133 : decode b_TT_readRow 133 = .ok (.aload_n 0, 1) := by decide +kernel
theorem d_TT_readRow_134 : decode b_TT_readRow 134 = .ok (.bipush 59, 2) := by decide +kernel
theorem d_TT_readRow_136 : decode b_TT_readRow 136 = .ok (.invokevirtual 46, 3) := by decide +kernel
theorem d_TT_readRow_139 : decode b_TT_readRow 139 = .ok (.ifCond .eq 7, 3) := by decide +kernel
theorem d_TT_readRow_142 : decode b_TT_readRow 142 = .ok (.iconst 1, 1) := by decide +kernel
theorem d_TT_readRow_143 : decode b_TT_readRow 143 = .ok (.goto 4, 3) := by decide +kernel
theorem d_TT_readRow_146 : decode b_TT_readRow 146 = .ok (.iconst 0, 1) := by decide +kernel
theorem d_TT_readRow_147 : decode b_TT_readRow 147 = .ok (.ireturn, 1) := by decide +kernel
theorem d_TT_readNumber_0 : decode b_TT_readNumber 0 = .ok (.iconst 0, 1) := by decide +kernel
theorem d_TT_readNumber_1 : decode b_TT_readNumber 1 = .ok (.istore 4, 2) := by decide +kernel
theorem d_TT_readNumber_3 : decode b_TT_readNumber 3 = .ok (.iconst 0, 1) := by decide +kernel
theorem d_TT_readNumber_4 : decode b_TT_readNumber 4 = .ok (.istore 5, 2) := by decide +kernel
theorem d_TT_readNumber_6 : decode b_TT_readNumber 6 = .ok (.iload 4, 2) := by decide +kernel
theorem d_TT_readNumber_8 : decode b_TT_readNumber 8 = .ok (.iload_n 3, 1) := by decide +kernel
theorem d_TT_readNumber_9 : decode b_TT_readNumber 9 = .ok (.if_icmp .ge 44, 3) := by decide +kernel
theorem d_TT_readNumber_12 : decode b_TT_readNumber 12 = .ok (.aload_n 0, 1) := by decide +kernel
theorem d_TT_readNumber_13 : decode b_TT_readNumber 13 = .ok (.invokevirtual 34, 3) := by decide +kernel
theorem d_TT_readNumber_16 : decode b_TT_readNumber 16 = .ok (.invokestatic 50, 3) := by decide +kernel
theorem d_TT_readNumber_19 : decode b_TT_readNumber 19 = .ok (.ifCond .eq 34, 3) := by decide +kernel
theorem d_TT_readNumber_22 : decode b_TT_readNumber 22 = .ok (.iload 5, 2) := by decide +kernel
theorem d_TT_readNumber_24 : decode b_TT_readNumber 24 = .ok (.bipush 10, 2) := by decide +kernel
theorem d_TT_readNumber_26 : decode b_TT_readNumber 26 = .ok (.imul, 1) := by decide +kernel
theorem d_TT_readNumber_27 : decode b_TT_readNumber 27 = .ok (.aload_n 0, 1) := by decide +kernel
theorem d_TT_readNumber_28 : decode b_TT_readNumber 28 = .ok (.invokevirtual 34, 3) := by decide +kernel
theorem d_TT_readNumber_31 : decode b_TT_readNumber 31 = .ok (.bipush 48, 2) := by decide +kernel
theorem d_TT_readNumber_33 : decode b_TT_readNumber 33 = .ok (.isub, 1) := by decide +kernel
theorem d_TT_readNumber_34 : decode b_TT_readNumber 34 = .ok (.iadd, 1) := by decide +kernel
theorem d_TT_readNumber_35 : decode b_TT_readNumber 35 = .ok (.istore 5, 2) := by decide +kernel
theorem d_TT_readNumber_37 : decode b_TT_readNumber 37 = .ok (.iinc 4 1, 3) := by decide +kernel
theorem d_TT_readNumber_40 : decode b_TT_readNumber 40 = .ok (.aload_n 0, 1) := by decide +kernel
theorem d_TT_readNumber_41 : decode b_TT_readNumber 41 = .ok (.dup, 1) := by decide +kernel
theorem d_TT_readNumber_42 : decode b_TT_readNumber 42 = .ok (.getfield 24, 3) := by decide +kernel
theorem d_TT_readNumber_45 : decode b_TT_readNumber 45 = .ok (.iconst 1, 1) := by decide +kernel
theorem d_TT_readNumber_46 : decode b_TT_readNumber 46 = .ok (.iadd, 1) := by decide +kernel
theorem d_TT_readNumber_47 : decode b_TT_readNumber 47 = .ok (.putfield 24, 3) := by decide +kernel
theorem d_TT_readNumber_50 : decode b_TT_readNumber 50 = .ok (.goto (-44), 3) := by decide +kernel
theorem d_TT_readNumber_53 : decode b_TT_readNumber 53 = .ok (.aload_n 1, 1) := by decide +kernel
theorem d_TT_readNumber_54 : decode b_TT_readNumber 54 = .ok (.iload_n 2, 1) := by decide +kernel
theorem d_TT_readNumber_55 : decode b_TT_readNumber 55 = .ok (.iload 5, 2) := by decide +kernel
theorem d_TT_readNumber_57 : decode b_TT_readNumber 57 = .ok (.iastore, 1) := by decide +kernel
theorem d_TT_readNumber_58 : decode b_TT_readNumber 58 = .ok (.iload 4, 2) := by decide +kernel
theorem d_TT_readNumber_60 : decode b_TT_readNumber 60 = .ok (.ifCond .le 7, 3) := by decide +kernel
theorem d_TT_readNumber_63 : decode b_TT_readNumber 63 = .ok (.iconst 1, 1) := by decide +kernel
theorem d_TT_readNumber_64 : decode b_TT_readNumber 64 = .ok (.goto 4, 3) := by decide +kernel
theorem d_TT_readNumber_67 : decode b_TT_readNumber 67 = .ok (.iconst 0, 1) := by decide +kernel
theorem d_TT_readNumber_68 : decode b_TT_readNumber 68 = .ok (.ireturn, 1) := by decide +kernel
theorem d_TT_passes_0 : decode b_TT_passes 0 = .ok (.aload_n 0, 1) := by decide +kernel
theorem d_TT_passes_1 : decode b_TT_passes 1 = .ok (.invokevirtual 34, 3) := by decide +kernel
theorem d_TT_passes_4 : decode b_TT_passes 4 = .ok (.iload_n 1, 1) := by decide +kernel
theorem d_TT_passes_5 : decode b_TT_passes 5 = .ok (.if_icmp .eq 5, 3) := by decide +kernel
theorem d_TT_passes_8 : decode b_TT_passes 8 = .ok (.iconst 0, 1) := by decide +kernel
theorem d_TT_passes_9 : decode b_TT_passes 9 = .ok (.ireturn, 1) := by decide +kernel
theorem d_TT_passes_10 : decode b_TT_passes 10 = .ok (.aload_n 0, 1) := by decide +kernel
theorem d_TT_passes_11 : decode b_TT_passes 11 = .ok (.dup, 1) := by decide +kernel
theorem d_TT_passes_12 : decode b_TT_passes 12 = .ok (.getfield 24, 3) := by decide +kernel
theorem d_TT_passes_15 : decode b_TT_passes 15 = .ok (.iconst 1, 1) := by decide +kernel
theorem d_TT_passes_16 : decode b_TT_passes 16 = .ok (.iadd, 1) := by decide +kernel
theorem d_TT_passes_17 : decode b_TT_passes 17 = .ok (.putfield 24, 3) := by decide +kernel
theorem d_TT_passes_20 : decode b_TT_passes 20 = .ok (.iconst 1, 1) := by decide +kernel
theorem d_TT_passes_21 : decode b_TT_passes 21 = .ok (.ireturn, 1) := by decide +kernel
theorem d_TT_next_0 : decode b_TT_next 0 = .ok (.aload_n 0, 1) := by decide +kernel
theorem d_TT_next_1 : decode b_TT_next 1 = .ok (.getfield 24, 3) := by decide +kernel
theorem d_TT_next_4 : decode b_TT_next 4 = .ok (.aload_n 0, 1) := by decide +kernel
theorem d_TT_next_5 : decode b_TT_next 5 = .ok (.getfield 20, 3) := by decide +kernel
theorem d_TT_next_8 : decode b_TT_next 8 = .ok (.if_icmp .ge 15, 3) := by decide +kernel
theorem d_TT_next_11 : decode b_TT_next 11 = .ok (.aload_n 0, 1) := by decide +kernel
theorem d_TT_next_12 : decode b_TT_next 12 = .ok (.getfield 11, 3) := by decide +kernel
theorem d_TT_next_15 : decode b_TT_next 15 = .ok (.aload_n 0, 1) := by decide +kernel
theorem d_TT_next_16 : decode b_TT_next 16 = .ok (.getfield 24, 3) := by decide +kernel
theorem d_TT_next_19 : decode b_TT_next 19 = .ok (.caload, 1) := by decide +kernel
theorem d_TT_next_20 : decode b_TT_next 20 = .ok (.goto 4, 3) := by decide +kernel
theorem d_TT_next_23 : decode b_TT_next 23 = .ok (.iconst 0, 1) := by decide +kernel
theorem d_TT_next_24 : decode b_TT_next 24 = .ok (.ireturn, 1) := by decide +kernel
theorem d_TT_isDigit_0 : decode b_TT_isDigit 0 = .ok (.iload_n 0, 1) := by decide +kernel
theorem d_TT_isDigit_1 : decode b_TT_isDigit 1 = .ok (.bipush 48, 2) := by decide +kernel
theorem d_TT_isDigit_3 : decode b_TT_isDigit 3 = .ok (.if_icmp .lt 13, 3) := by decide +kernel
theorem d_TT_isDigit_6 : decode b_TT_isDigit 6 = .ok (.iload_n 0, 1) := by decide +kernel
theorem d_TT_isDigit_7 : decode b_TT_isDigit 7 = .ok (.bipush 57, 2) := by decide +kernel
theorem d_TT_isDigit_9 : decode b_TT_isDigit 9 = .ok (.if_icmp .gt 7, 3) := by decide +kernel
theorem d_TT_isDigit_12 : decode b_TT_isDigit 12 = .ok (.iconst 1, 1) := by decide +kernel
theorem d_TT_isDigit_13 : decode b_TT_isDigit 13 = .ok (.goto 4, 3) := by decide +kernel
theorem d_TT_isDigit_16 : decode b_TT_isDigit 16 = .ok (.iconst 0, 1) := by decide +kernel
theorem d_TT_isDigit_17 : decode b_TT_isDigit 17 = .ok (.ireturn, 1) := by decide +kernel
theorem d_AC_init_0 : decode b_AC_init 0 = .ok (.aload_n 0, 1) := by decide +kernel
theorem d_AC_init_1 : decode b_AC_init 1 = .ok (.invokespecial 1, 3) := by decide +kernel
theorem d_AC_init_4 : decode b_AC_init 4 = .ok (.return_, 1) := by decide +kernel
theorem d_AB_init_0 : decode b_AB_init 0 = .ok (.aload_n 0, 1) := by decide +kernel
theorem d_AB_init_1 : decode b_AB_init 1 = .ok (.invokespecial 1, 3) := by decide +kernel
theorem d_AB_init_4 : decode b_AB_init 4 = .ok (.aload_n 0, 1) := by decide +kernel
theorem d_AB_init_5 : decode b_AB_init 5 = .ok (.iconst 0, 1) := by decide +kernel
theorem d_AB_init_6 : decode b_AB_init 6 = .ok (.putfield 7, 3) := by decide +kernel
theorem d_AB_init_9 : decode b_AB_init 9 = .ok (.return_, 1) := by decide +kernel
theorem d_AL_init_0 : decode b_AL_init 0 = .ok (.aload_n 0, 1) := by decide +kernel
theorem d_AL_init_1 : decode b_AL_init 1 = .ok (.invokespecial 1, 3) := by decide +kernel
theorem d_AL_init_4 : decode b_AL_init 4 = .ok (.aload_n 0, 1) := by decide +kernel
theorem d_AL_init_5 : decode b_AL_init 5 = .ok (.getstatic 39, 3) := by decide +kernel
theorem d_AL_init_8 : decode b_AL_init 8 = .ok (.putfield 9, 3) := by decide +kernel
theorem d_AL_init_11 : decode b_AL_init 11 = .ok (.return_, 1) := by decide +kernel
theorem d_AL_add_0 : decode b_AL_add 0 = .ok (.aload_n 0, 1) := by decide +kernel
theorem d_AL_add_1 : decode b_AL_add 1 = .ok (.dup, 1) := by decide +kernel
theorem d_AL_add_2 : decode b_AL_add 2 = .ok (.getfield 63, 3) := by decide +kernel
theorem d_AL_add_5 : decode b_AL_add 5 = .ok (.iconst 1, 1) := by decide +kernel
theorem d_AL_add_6 : decode b_AL_add 6 = .ok (.iadd, 1) := by decide +kernel
theorem d_AL_add_7 : decode b_AL_add 7 = .ok (.putfield 63, 3) := by decide +kernel
theorem d_AL_add_10 : decode b_AL_add 10 = .ok (.aload_n 0, 1) := by decide +kernel
theorem d_AL_add_11 : decode b_AL_add 11 = .ok (.aload_n 1, 1) := by decide +kernel
theorem d_AL_add_12 : decode b_AL_add 12 = .ok (.aload_n 0, 1) := by decide +kernel
theorem d_AL_add_13 : decode b_AL_add 13 = .ok (.getfield 9, 3) := by decide +kernel
theorem d_AL_add_16 : decode b_AL_add 16 = .ok (.aload_n 0, 1) := by decide +kernel
theorem d_AL_add_17 : decode b_AL_add 17 = .ok (.getfield 48, 3) := by decide +kernel
theorem d_AL_add_20 : decode b_AL_add 20 = .ok (.invokevirtual 131, 3) := by decide +kernel
theorem d_AL_add_23 : decode b_AL_add 23 = .ok (.iconst 1, 1) := by decide +kernel
theorem d_AL_add_24 : decode b_AL_add 24 = .ok (.ireturn, 1) := by decide +kernel
theorem d_AL_add2_0 : decode b_AL_add2 0 = .ok (.iload_n 3, 1) := by decide +kernel
theorem d_AL_add2_1 : decode b_AL_add2 1 = .ok (.aload_n 2, 1) := by decide +kernel
theorem d_AL_add2_2 : decode b_AL_add2 2 = .ok (.arraylength, 1) := by decide +kernel
theorem d_AL_add2_3 : decode b_AL_add2 3 = .ok (.if_icmp .ne 8, 3) := by decide +kernel
theorem d_AL_add2_6 : decode b_AL_add2 6 = .ok (.aload_n 0, 1) := by decide +kernel
theorem d_AL_add2_7 : decode b_AL_add2 7 = .ok (.invokevirtual 129, 3) := by decide +kernel
theorem d_AL_add2_10 : decode b_AL_add2 10 = .ok (.astore_n 2, 1) := by decide +kernel
theorem d_AL_add2_11 : decode b_AL_add2 11 = .ok (.aload_n 2, 1) := by decide +kernel
theorem d_AL_add2_12 : decode b_AL_add2 12 = .ok (.iload_n 3, 1) := by decide +kernel
theorem d_AL_add2_13 : decode b_AL_add2 13 = .ok (.aload_n 1, 1) := by decide +kernel
theorem d_AL_add2_14 : decode b_AL_add2 14 = .ok (.aastore, 1) := by decide +kernel
theorem d_AL_add2_15 : decode b_AL_add2 15 = .ok (.aload_n 0, 1) := by decide +kernel
theorem d_AL_add2_16 : decode b_AL_add2 16 = .ok (.iload_n 3, 1) := by decide +kernel
theorem d_AL_add2_17 : decode b_AL_add2 17 = .ok (.iconst 1, 1) := by decide +kernel
theorem d_AL_add2_18 : decode b_AL_add2 18 = .ok (.iadd, 1) := by decide +kernel
theorem d_AL_add2_19 : decode b_AL_add2 19 = .ok (.putfield 48, 3) := by decide +kernel
theorem d_AL_add2_22 : decode b_AL_add2 22 = .ok (.return_, 1) := by decide +kernel
theorem d_AL_elementData_0 : decode b_AL_elementData 0 = .ok (.aload_n 0, 1) := by decide +kernel
theorem d_AL_elementData_1 : decode b_AL_elementData 1 = .ok (.getfield 9, 3) := by decide +kernel
theorem d_AL_elementData_4 : decode b_AL_elementData 4 = .ok (.iload_n 1, 1) := by decide +kernel
theorem d_AL_elementData_5 : decode b_AL_elementData 5 = .ok (.aaload, 1) := by decide +kernel
theorem d_AL_elementData_6 : decode b_AL_elementData 6 = .ok (.areturn, 1) := by decide +kernel
theorem d_AL_get_0 : decode b_AL_get 0 = .ok (.iload_n 1, 1) := by decide +kernel
theorem d_AL_get_1 : decode b_AL_get 1 = .ok (.aload_n 0, 1) := by decide +kernel
theorem d_AL_get_2 : decode b_AL_get 2 = .ok (.getfield 48, 3) := by decide +kernel
theorem d_AL_get_5 : decode b_AL_get 5 = .ok (.invokestatic 118, 3) := by decide +kernel
theorem d_AL_get_8 : decode b_AL_get 8 = .ok (.pop, 1) := by decide +kernel
theorem d_AL_get_9 : decode b_AL_get 9 = .ok (.aload_n 0, 1) := by decide +kernel
theorem d_AL_get_10 : decode b_AL_get 10 = .ok (.iload_n 1, 1) := by decide +kernel
theorem d_AL_get_11 : decode b_AL_get 11 = .ok (.invokevirtual 123, 3) := by decide +kernel
theorem d_AL_get_14 : decode b_AL_get 14 = .ok (.areturn, 1) := by decide +kernel
theorem d_AL_grow_0 : decode b_AL_grow 0 = .ok (.aload_n 0, 1) := by decide +kernel
theorem d_AL_grow_1 : decode b_AL_grow 1 = .ok (.aload_n 0, 1) := by decide +kernel
theorem d_AL_grow_2 : decode b_AL_grow 2 = .ok (.getfield 48, 3) := by decide +kernel
theorem d_AL_grow_5 : decode b_AL_grow 5 = .ok (.iconst 1, 1) := by decide +kernel
theorem d_AL_grow_6 : decode b_AL_grow 6 = .ok (.iadd, 1) := by decide +kernel
theorem d_AL_grow_7 : decode b_AL_grow 7 = .ok (.invokevirtual 69, 3) := by decide +kernel
theorem d_AL_grow_10 : decode b_AL_grow 10 = .ok (.areturn, 1) := by decide +kernel
theorem d_AL_grow2_0 : decode b_AL_grow2 0 = .ok (.aload_n 0, 1) := by decide +kernel
theorem d_AL_grow2_1 : decode b_AL_grow2 1 = .ok (.getfield 9, 3) := by decide +kernel
theorem d_AL_grow2_4 : decode b_AL_grow2 4 = .ok (.arraylength, 1) := by decide +kernel
theorem d_AL_grow2_5 : decode b_AL_grow2 5 = .ok (.istore_n 2, 1) := by decide +kernel
theorem d_AL_grow2_6 : decode b_AL_grow2 6 = .ok (.iload_n 2, 1) := by decide +kernel
theorem d_AL_grow2_7 : decode b_AL_grow2 7 = .ok (.ifCond .gt 13, 3) := by decide +kernel
theorem d_AL_grow2_10 : decode b_AL_grow2 10 = .ok (.aload_n 0, 1) := by decide +kernel
theorem d_AL_grow2_11 : decode b_AL_grow2 11 = .ok (.getfield 9, 3) := by decide +kernel
theorem d_AL_grow2_14 : decode b_AL_grow2 14 = .ok (.getstatic 39, 3) := by decide +kernel
theorem d_AL_grow2_17 : decode b_AL_grow2 17 = .ok (.if_acmp .eq 28, 3) := by decide +kernel
theorem d_AL_grow2_20 : decode b_AL_grow2 20 = .ok (.iload_n 2, 1) := by decide +kernel
theorem d_AL_grow2_21 : decode b_AL_grow2 21 = .ok (.iload_n 1, 1) := by decide +kernel
theorem d_AL_grow2_22 : decode b_AL_grow2 22 = .ok (.iload_n 2, 1) := by decide +kernel
theorem d_AL_grow2_23 : decode b_AL_grow2 23 = .ok (.isub, 1) := by decide +kernel
theorem d_AL_grow2_24 : decode b_AL_grow2 24 = .ok (.iload_n 2, 1) := by decide +kernel
theorem d_AL_grow2_25 : decode b_AL_grow2 25 = .ok (.iconst 1, 1) := by decide +kernel
theorem d_AL_grow2_26 : decode b_AL_grow2 26 = .ok (.ishr, 1) := by decide +kernel
theorem d_AL_grow2_27 : decode b_AL_grow2 27 = .ok (.invokestatic 73, 3) := by decide +kernel
theorem d_AL_grow2_30 : decode b_AL_grow2 30 = .ok (.istore_n 3, 1) := by decide +kernel
theorem d_AL_grow2_31 : decode b_AL_grow2 31 = .ok (.aload_n 0, 1) := by decide +kernel
theorem d_AL_grow2_32 : decode b_AL_grow2 32 = .ok (.aload_n 0, 1) := by decide +kernel
theorem d_AL_grow2_33 : decode b_AL_grow2 33 = .ok (.getfield 9, 3) := by decide +kernel
theorem d_AL_grow2_36 : decode b_AL_grow2 36 = .ok (.iload_n 3, 1) := by decide +kernel
theorem d_AL_grow2_37 : decode b_AL_grow2 37 = .ok (.invokestatic 66, 3) := by decide +kernel
theorem d_AL_grow2_40 : decode b_AL_grow2 40 = .ok (.dup_x1, 1) := by decide +kernel
theorem d_AL_grow2_41 : decode b_AL_grow2 41 = .ok (.putfield 9, 3) := by decide +kernel
theorem d_AL_grow2_44 : decode b_AL_grow2 44 = .ok (.areturn, 1) := by decide +kernel
theorem d_AL_grow2_45 : decode b_AL_grow2 45 = .ok (.aload_n 0, 1) := by decide +kernel
theorem d_AL_grow2_46 : decode b_AL_grow2 46 = .ok (.bipush 10, 2) := by decide +kernel
theorem d_AL_grow2_48 : decode b_AL_grow2 48 = .ok (.iload_n 1, 1) := by decide +kernel
theorem d_AL_grow2_49 : decode b_AL_grow2 49 = .ok (.invokestatic 79, 3) := by decide +kernel
theorem d_AL_grow2_52 : decode b_AL_grow2 52 = .ok (.anewarray 7, 3) := by decide +kernel
theorem d_AL_grow2_55 : decode b_AL_grow2 55 = .ok (.dup_x1, 1) := by decide +kernel
theorem d_AL_grow2_56 : decode b_AL_grow2 56 = .ok (.putfield 9, 3) := by decide +kernel
theorem d_AL_grow2_59 : decode b_AL_grow2 59 = .ok (.areturn, 1) := by decide +kernel
theorem d_AL_size_0 : decode b_AL_size 0 = .ok (.aload_n 0, 1) := by decide +kernel
theorem d_AL_size_1 : decode b_AL_size 1 = .ok (.getfield 48, 3) := by decide +kernel
theorem d_AL_size_4 : decode b_AL_size 4 = .ok (.ireturn, 1) := by decide +kernel
theorem d_AR_copyOf_0 : decode b_AR_copyOf 0 = .ok (.aload_n 0, 1) := by decide +kernel
theorem d_AR_copyOf_1 : decode b_AR_copyOf 1 = .ok (.iload_n 1, 1) := by decide +kernel
theorem d_AR_copyOf_2 : decode b_AR_copyOf 2 = .ok (.aload_n 0, 1) := by decide +kernel
theorem d_AR_copyOf_3 : decode b_AR_copyOf 3 = .ok (.invokevirtual 86, 3) := by decide +kernel
theorem d_AR_copyOf_6 : decode b_AR_copyOf 6 = .ok (.invokestatic 300, 3) := by decide +kernel
theorem d_AR_copyOf_9 : decode b_AR_copyOf 9 = .ok (.areturn, 1) := by decide +kernel
theorem d_AR_copyOf2_0 : decode b_AR_copyOf2 0 = .ok (.aload_n 2, 1) := by decide +kernel
theorem d_AR_copyOf2_1 : decode b_AR_copyOf2 1 = .ok (.ldc 110, 2) := by decide +kernel
theorem d_AR_copyOf2_3 : decode b_AR_copyOf2 3 = .ok (.if_acmp .ne 10, 3) := by decide +kernel
theorem d_AR_copyOf2_6 : decode b_AR_copyOf2 6 = .ok (.iload_n 1, 1) := by decide +kernel
theorem d_AR_copyOf2_7 : decode b_AR_copyOf2 7 = .ok (.anewarray 2, 3) := by decide +kernel
theorem d_AR_copyOf2_10 : decode b_AR_copyOf2 10 = .ok (.goto 14, 3) := by decide +kernel
theorem d_AR_copyOf2_13 : decode b_AR_copyOf2 13 = .ok (.aload_n 2, 1) := by decide +kernel
theorem d_AR_copyOf2_14 : decode b_AR_copyOf2 14 = .ok (.invokevirtual 90, 3) := by decide +kernel
theorem d_AR_copyOf2_17 : decode b_AR_copyOf2 17 = .ok (.iload_n 1, 1) := by decide +kernel
theorem d_AR_copyOf2_18 : decode b_AR_copyOf2 18 = .ok (.invokestatic 95, 3) := by decide +kernel
theorem d_AR_copyOf2_21 : decode b_AR_copyOf2 21 = .ok (.checkcast 110, 3) := by decide +kernel
theorem d_AR_copyOf2_24 : decode b_AR_copyOf2 24 = .ok (.astore_n 3, 1) := by decide +kernel
theorem d_AR_copyOf2_25 : decode b_AR_copyOf2 25 = .ok (.aload_n 0, 1) := by decide +kernel
theorem d_AR_copyOf2_26 : decode b_AR_copyOf2 26 = .ok (.iconst 0, 1) := by decide +kernel
theorem d_AR_copyOf2_27 : decode b_AR_copyOf2 27 = .ok (.aload_n 3, 1) := by decide +kernel
theorem d_AR_copyOf2_28 : decode b_AR_copyOf2 28 = .ok (.iconst 0, 1) := by decide +kernel
theorem d_AR_copyOf2_29 : decode b_AR_copyOf2 29 = .ok (.aload_n 0, 1) := by decide +kernel
theorem d_AR_copyOf2_30 : decode b_AR_copyOf2 30 = .ok (.arraylength, 1) := by decide +kernel
theorem d_AR_copyOf2_31 : decode b_AR_copyOf2 31 = .ok (.iload_n 1, 1) := by decide +kernel
theorem d_AR_copyOf2_32 : decode b_AR_copyOf2 32 = .ok (.invokestatic 304, 3) := by decide +kernel
theorem d_AR_copyOf2_35 : decode b_AR_copyOf2 35 = .ok (.invokestatic 150, 3) := by decide +kernel
theorem d_AR_copyOf2_38 : decode b_AR_copyOf2 38 = .ok (.aload_n 3, 1) := by decide +kernel
theorem d_AR_copyOf2_39 : decode b_AR_copyOf2 39 = .ok (.areturn, 1) := by decide +kernel
theorem d_AR_fill_0 : decode b_AR_fill 0 = .ok (.iconst 0, 1) := by decide +kernel
theorem d_AR_fill_1 : decode b_AR_fill 1 = .ok (.istore_n 2, 1) := by decide +kernel
theorem d_AR_fill_2 : decode b_AR_fill 2 = .ok (.aload_n 0, 1) := by decide +kernel
theorem d_AR_fill_3 : decode b_AR_fill 3 = .ok (.arraylength, 1) := by decide +kernel
theorem d_AR_fill_4 : decode b_AR_fill 4 = .ok (.istore_n 3, 1) := by decide +kernel
theorem d_AR_fill_5 : decode b_AR_fill 5 = .ok (.iload_n 2, 1) := by decide +kernel
theorem d_AR_fill_6 : decode b_AR_fill 6 = .ok (.iload_n 3, 1) := by decide +kernel
theorem d_AR_fill_7 : decode b_AR_fill 7 = .ok (.if_icmp .ge 13, 3) := by decide +kernel
theorem d_AR_fill_10 : decode b_AR_fill 10 = .ok (.aload_n 0, 1) := by decide +kernel
theorem d_AR_fill_11 : decode b_AR_fill 11 = .ok (.iload_n 2, 1) := by decide +kernel
theorem d_AR_fill_12 : decode b_AR_fill 12 = .ok (.iload_n 1, 1) := by decide +kernel
theorem d_AR_fill_13 : decode b_AR_fill 13 = .ok (.iastore, 1) := by decide +kernel
theorem d_AR_fill_14 : decode b_AR_fill 14 = .ok (.iinc 2 1, 3) := by decide +kernel
theorem d_AR_fill_17 : decode b_AR_fill 17 = .ok (.goto (-12), 3) := by decide +kernel
theorem d_AR_fill_20 : decode b_AR_fill 20 = .ok (.return_, 1) := by decide +kernel
theorem d_OB_checkIndex_0 : decode b_OB_checkIndex 0 = .ok (.iload_n 0, 1) := by decide +kernel
theorem d_OB_checkIndex_1 : decode b_OB_checkIndex 1 = .ok (.iload_n 1, 1) := by decide +kernel
theorem d_OB_checkIndex_2 : decode b_OB_checkIndex 2 = .ok (.aconst_null, 1) := by decide +kernel
theorem d_OB_checkIndex_3 : decode b_OB_checkIndex 3 = .ok (.invokestatic 105, 3) := by decide +kernel
theorem d_OB_checkIndex_6 : decode b_OB_checkIndex 6 = .ok (.ireturn, 1) := by decide +kernel
theorem d_AS_hugeLength_0 : decode b_AS_hugeLength 0 = .ok (.iload_n 0, 1) := by decide +kernel
theorem d_AS_hugeLength_1 : decode b_AS_hugeLength 1 = .ok (.iload_n 1, 1) := by decide +kernel
theorem d_AS_hugeLength_2 : decode b_AS_hugeLength 2 = .ok (.iadd, 1) := by decide +kernel
theorem d_AS_hugeLength_3 : decode b_AS_hugeLength 3 = .ok (.istore_n 2, 1) := by decide +kernel
theorem d_AS_hugeLength_4 : decode b_AS_hugeLength 4 = .ok (.iload_n 2, 1) := by decide +kernel
theorem d_AS_hugeLength_5 : decode b_AS_hugeLength 5 = .ok (.ifCond .ge 44, 3) := by decide +kernel
theorem d_AS_hugeLength_8 : decode b_AS_hugeLength 8 = .ok (.new 204, 3) := by decide +kernel
theorem d_AS_hugeLength_11 : decode b_AS_hugeLength 11 = .ok (.dup, 1) := by decide +kernel
theorem d_AS_hugeLength_12 : decode b_AS_hugeLength 12 = .ok (.new 89, 3) := by decide +kernel
theorem d_AS_hugeLength_15 : decode b_AS_hugeLength 15 = .ok (.dup, 1) := by decide +kernel
theorem d_AS_hugeLength_16 : decode b_AS_hugeLength 16 = .ok (.invokespecial 91, 3) := by decide +kernel
theorem d_AS_hugeLength_19 : decode b_AS_hugeLength 19 = .ok (.ldc 206, 2) := by decide +kernel
theorem d_AS_hugeLength_21 : decode b_AS_hugeLength 21 = .ok (.invokevirtual 94, 3) := by decide +kernel
theorem d_AS_hugeLength_24 : decode b_AS_hugeLength 24 = .ok (.iload_n 0, 1) := by decide +kernel
theorem d_AS_hugeLength_25 : decode b_AS_hugeLength 25 = .ok (.invokevirtual 98, 3) := by decide +kernel
theorem d_AS_hugeLength_28 : decode b_AS_hugeLength 28 = .ok (.ldc 208, 2) := by decide +kernel
theorem d_AS_hugeLength_30 : decode b_AS_hugeLength 30 = .ok (.invokevirtual 94, 3) := by decide +kernel
theorem d_AS_hugeLength_33 : decode b_AS_hugeLength 33 = .ok (.iload_n 1, 1) := by decide +kernel
theorem d_AS_hugeLength_34 : decode b_AS_hugeLength 34 = .ok (.invokevirtual 98, 3) := by decide +kernel
theorem d_AS_hugeLength_37 : decode b_AS_hugeLength 37 = .ok (.ldc 210, 2) := by decide +kernel
theorem d_AS_hugeLength_39 : decode b_AS_hugeLength 39 = .ok (.invokevirtual 94, 3) := by decide +kernel
theorem d_AS_hugeLength_42 : decode b_AS_hugeLength 42 = .ok (.invokevirtual 101, 3) := by decide +kernel
theorem d_AS_hugeLength_45 : decode b_AS_hugeLength 45 = .ok (.invokespecial 212, 3) := by decide +kernel
theorem d_AS_hugeLength_48 : decode b_AS_hugeLength 48 = .ok (.athrow, 1) := by decide +kernel
theorem d_AS_hugeLength_49 : decode b_AS_hugeLength 49 = .ok (.iload_n 2, 1) := by decide +kernel
theorem d_AS_hugeLength_50 : decode b_AS_hugeLength 50 = .ok (.ldc 200, 2) := by decide +kernel
theorem d_AS_hugeLength_52 : decode b_AS_hugeLength 52 = .ok (.if_icmp .gt 6, 3) := by decide +kernel
theorem d_AS_hugeLength_55 : decode b_AS_hugeLength 55 = .ok (.ldc 200, 2) := by decide +kernel
theorem d_AS_hugeLength_57 : decode b_AS_hugeLength 57 = .ok (.ireturn, 1) := by decide +kernel
theorem d_AS_hugeLength_58 : decode b_AS_hugeLength 58 = .ok (.iload_n 2, 1) := by decide +kernel
theorem d_AS_hugeLength_59 : decode b_AS_hugeLength 59 = .ok (.ireturn, 1) := by decide +kernel
theorem d_AS_newLength_0 : decode b_AS_newLength 0 = .ok (.iload_n 0, 1) := by decide +kernel
theorem d_AS_newLength_1 : decode b_AS_newLength 1 = .ok (.iload_n 1, 1) := by decide +kernel
theorem d_AS_newLength_2 : decode b_AS_newLength 2 = .ok (.iload_n 2, 1) := by decide +kernel
theorem d_AS_newLength_3 : decode b_AS_newLength 3 = .ok (.invokestatic 194, 3) := by decide +kernel
theorem d_AS_newLength_6 : decode b_AS_newLength 6 = .ok (.iadd, 1) := by decide +kernel
theorem d_AS_newLength_7 : decode b_AS_newLength 7 = .ok (.istore_n 3, 1) := by decide +kernel
theorem d_AS_newLength_8 : decode b_AS_newLength 8 = .ok (.iconst 0, 1) := by decide +kernel
theorem d_AS_newLength_9 : decode b_AS_newLength 9 = .ok (.iload_n 3, 1) := by decide +kernel
theorem d_AS_newLength_10 : decode b_AS_newLength 10 = .ok (.if_icmp .ge 11, 3) := by decide +kernel
theorem d_AS_newLength_13 : decode b_AS_newLength 13 = .ok (.iload_n 3, 1) := by decide +kernel
theorem d_AS_newLength_14 : decode b_AS_newLength 14 = .ok (.ldc 200, 2) := by decide +kernel
theorem d_AS_newLength_16 : decode b_AS_newLength 16 = .ok (.if_icmp .gt 5, 3) := by decide +kernel
theorem d_AS_newLength_19 : decode b_AS_newLength 19 = .ok (.iload_n 3, 1) := by decide +kernel
theorem d_AS_newLength_20 : decode b_AS_newLength 20 = .ok (.ireturn, 1) := by decide +kernel
theorem d_AS_newLength_21 : decode b_AS_newLength 21 = .ok (.iload_n 0, 1) := by decide +kernel
theorem d_AS_newLength_22 : decode b_AS_newLength 22 = .ok (.iload_n 1, 1) := by decide +kernel
theorem d_AS_newLength_23 : decode b_AS_newLength 23 = .ok (.invokestatic 201, 3) := by decide +kernel
theorem d_AS_newLength_26 : decode b_AS_newLength 26 = .ok (.ireturn, 1) := by decide +kernel
theorem d_PC_checkIndex_0 : decode b_PC_checkIndex 0 = .ok (.iload_n 0, 1) := by decide +kernel
theorem d_PC_checkIndex_1 : decode b_PC_checkIndex 1 = .ok (.ifCond .lt 8, 3) := by decide +kernel
theorem d_PC_checkIndex_4 : decode b_PC_checkIndex 4 = .ok (.iload_n 0, 1) := by decide +kernel
theorem d_PC_checkIndex_5 : decode b_PC_checkIndex 5 = .ok (.iload_n 1, 1) := by decide +kernel
theorem d_PC_checkIndex_6 : decode b_PC_checkIndex 6 = .ok (.if_icmp .lt 10, 3) := by decide +kernel
theorem d_PC_checkIndex_9 : decode b_PC_checkIndex 9 = .ok (.aload_n 2, 1) := by decide +kernel
theorem d_PC_checkIndex_10 : decode b_PC_checkIndex 10 = .ok (.iload_n 0, 1) := by decide +kernel
theorem d_PC_checkIndex_11 : decode b_PC_checkIndex 11 = .ok (.iload_n 1, 1) := by decide +kernel
theorem d_PC_checkIndex_12 : decode b_PC_checkIndex 12 = .ok (.invokestatic 95, 3) := by decide +kernel
theorem d_PC_checkIndex_15 : decode b_PC_checkIndex 15 = .ok (.athrow, 1) := by decide +kernel
theorem d_PC_checkIndex_16 : decode b_PC_checkIndex 16 = .ok (.iload_n 0, 1) := by decide +kernel
theorem d_PC_checkIndex_17 : decode b_PC_checkIndex 17 = .ok (.ireturn, 1) := by decide +kernel
