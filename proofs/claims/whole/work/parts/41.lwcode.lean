theorem d_LW_tariff_0 : decode b_LW_tariff 0 = .ok (.aload_n 3, 1) := by decide +kernel
theorem d_LW_tariff_1 : decode b_LW_tariff 1 = .ok (.iconst 0, 1) := by decide +kernel
theorem d_LW_tariff_2 : decode b_LW_tariff 2 = .ok (.aload_n 0, 1) := by decide +kernel
theorem d_LW_tariff_3 : decode b_LW_tariff 3 = .ok (.iload_n 1, 1) := by decide +kernel
theorem d_LW_tariff_4 : decode b_LW_tariff 4 = .ok (.iload_n 2, 1) := by decide +kernel
theorem d_LW_tariff_5 : decode b_LW_tariff 5 = .ok (.invokevirtual 7, 3) := by decide +kernel
theorem d_LW_tariff_8 : decode b_LW_tariff 8 = .ok (.i2l, 1) := by decide +kernel
theorem d_LW_tariff_9 : decode b_LW_tariff 9 = .ok (.lastore, 1) := by decide +kernel
theorem d_LW_tariff_10 : decode b_LW_tariff 10 = .ok (.goto 7, 3) := by decide +kernel
theorem d_LW_tariff_13 : decode b_LW_tariff 13 = .ok (.astore 4, 2) := by decide +kernel
theorem d_LW_tariff_15 : decode b_LW_tariff 15 = .ok (.iconst 1, 1) := by decide +kernel
theorem d_LW_tariff_16 : decode b_LW_tariff 16 = .ok (.ireturn, 1) := by decide +kernel
theorem d_LW_tariff_17 : decode b_LW_tariff 17 = .ok (.iconst 0, 1) := by decide +kernel
theorem d_LW_tariff_18 : decode b_LW_tariff 18 = .ok (.ireturn, 1) := by decide +kernel
theorem d_LW_event_0 : decode b_LW_event 0 = .ok (.aload 4, 2) := by decide +kernel
theorem d_LW_event_2 : decode b_LW_event 2 = .ok (.iconst 0, 1) := by decide +kernel
theorem d_LW_event_3 : decode b_LW_event 3 = .ok (.aload_n 0, 1) := by decide +kernel
theorem d_LW_event_4 : decode b_LW_event 4 = .ok (.iload_n 1, 1) := by decide +kernel
theorem d_LW_event_5 : decode b_LW_event 5 = .ok (.iload_n 2, 1) := by decide +kernel
theorem d_LW_event_6 : decode b_LW_event 6 = .ok (.iload_n 3, 1) := by decide +kernel
theorem d_LW_event_7 : decode b_LW_event 7 = .ok (.invokevirtual 15, 3) := by decide +kernel
theorem d_LW_event_10 : decode b_LW_event 10 = .ok (.i2l, 1) := by decide +kernel
theorem d_LW_event_11 : decode b_LW_event 11 = .ok (.lastore, 1) := by decide +kernel
theorem d_LW_event_12 : decode b_LW_event 12 = .ok (.goto 11, 3) := by decide +kernel
theorem d_LW_event_15 : decode b_LW_event 15 = .ok (.astore 5, 2) := by decide +kernel
theorem d_LW_event_17 : decode b_LW_event 17 = .ok (.iconst 1, 1) := by decide +kernel
theorem d_LW_event_18 : decode b_LW_event 18 = .ok (.ireturn, 1) := by decide +kernel
theorem d_LW_event_19 : decode b_LW_event 19 = .ok (.astore 5, 2) := by decide +kernel
theorem d_LW_event_21 : decode b_LW_event 21 = .ok (.iconst 2, 1) := by decide +kernel
theorem d_LW_event_22 : decode b_LW_event 22 = .ok (.ireturn, 1) := by decide +kernel
theorem d_LW_event_23 : decode b_LW_event 23 = .ok (.iconst 0, 1) := by decide +kernel
theorem d_LW_event_24 : decode b_LW_event 24 = .ok (.ireturn, 1) := by decide +kernel
theorem d_LW_bill_0 : decode b_LW_bill 0 = .ok (.aload_n 2, 1) := by decide +kernel
theorem d_LW_bill_1 : decode b_LW_bill 1 = .ok (.iconst 0, 1) := by decide +kernel
theorem d_LW_bill_2 : decode b_LW_bill 2 = .ok (.aload_n 0, 1) := by decide +kernel
theorem d_LW_bill_3 : decode b_LW_bill 3 = .ok (.iload_n 1, 1) := by decide +kernel
theorem d_LW_bill_4 : decode b_LW_bill 4 = .ok (.invokevirtual 21, 3) := by decide +kernel
theorem d_LW_bill_7 : decode b_LW_bill 7 = .ok (.i2l, 1) := by decide +kernel
theorem d_LW_bill_8 : decode b_LW_bill 8 = .ok (.lastore, 1) := by decide +kernel
theorem d_LW_bill_9 : decode b_LW_bill 9 = .ok (.goto 9, 3) := by decide +kernel
theorem d_LW_bill_12 : decode b_LW_bill 12 = .ok (.astore_n 3, 1) := by decide +kernel
theorem d_LW_bill_13 : decode b_LW_bill 13 = .ok (.iconst 1, 1) := by decide +kernel
theorem d_LW_bill_14 : decode b_LW_bill 14 = .ok (.ireturn, 1) := by decide +kernel
theorem d_LW_bill_15 : decode b_LW_bill 15 = .ok (.astore_n 3, 1) := by decide +kernel
theorem d_LW_bill_16 : decode b_LW_bill 16 = .ok (.iconst 2, 1) := by decide +kernel
theorem d_LW_bill_17 : decode b_LW_bill 17 = .ok (.ireturn, 1) := by decide +kernel
theorem d_LW_bill_18 : decode b_LW_bill 18 = .ok (.iconst 0, 1) := by decide +kernel
theorem d_LW_bill_19 : decode b_LW_bill 19 = .ok (.ireturn, 1) := by decide +kernel
theorem d_LW_correct_0 : decode b_LW_correct 0 = .ok (.aload 4, 2) := by decide +kernel
theorem d_LW_correct_2 : decode b_LW_correct 2 = .ok (.iconst 0, 1) := by decide +kernel
theorem d_LW_correct_3 : decode b_LW_correct 3 = .ok (.aload_n 0, 1) := by decide +kernel
theorem d_LW_correct_4 : decode b_LW_correct 4 = .ok (.iload_n 1, 1) := by decide +kernel
theorem d_LW_correct_5 : decode b_LW_correct 5 = .ok (.lload_n 2, 1) := by decide +kernel
theorem d_LW_correct_6 : decode b_LW_correct 6 = .ok (.invokevirtual 25, 3) := by decide +kernel
theorem d_LW_correct_9 : decode b_LW_correct 9 = .ok (.i2l, 1) := by decide +kernel
theorem d_LW_correct_10 : decode b_LW_correct 10 = .ok (.lastore, 1) := by decide +kernel
theorem d_LW_correct_11 : decode b_LW_correct 11 = .ok (.goto 11, 3) := by decide +kernel
theorem d_LW_correct_14 : decode b_LW_correct 14 = .ok (.astore 5, 2) := by decide +kernel
theorem d_LW_correct_16 : decode b_LW_correct 16 = .ok (.iconst 1, 1) := by decide +kernel
theorem d_LW_correct_17 : decode b_LW_correct 17 = .ok (.ireturn, 1) := by decide +kernel
theorem d_LW_correct_18 : decode b_LW_correct 18 = .ok (.astore 5, 2) := by decide +kernel
theorem d_LW_correct_20 : decode b_LW_correct 20 = .ok (.iconst 2, 1) := by decide +kernel
theorem d_LW_correct_21 : decode b_LW_correct 21 = .ok (.ireturn, 1) := by decide +kernel
theorem d_LW_correct_22 : decode b_LW_correct 22 = .ok (.iconst 0, 1) := by decide +kernel
theorem d_LW_correct_23 : decode b_LW_correct 23 = .ok (.ireturn, 1) := by decide +kernel
theorem d_LW_dispute_0 : decode b_LW_dispute 0 = .ok (.aload_n 3, 1) := by decide +kernel
theorem d_LW_dispute_1 : decode b_LW_dispute 1 = .ok (.iconst 0, 1) := by decide +kernel
theorem d_LW_dispute_2 : decode b_LW_dispute 2 = .ok (.aload_n 0, 1) := by decide +kernel
theorem d_LW_dispute_3 : decode b_LW_dispute 3 = .ok (.iload_n 1, 1) := by decide +kernel
theorem d_LW_dispute_4 : decode b_LW_dispute 4 = .ok (.iload_n 2, 1) := by decide +kernel
theorem d_LW_dispute_5 : decode b_LW_dispute 5 = .ok (.invokevirtual 29, 3) := by decide +kernel
theorem d_LW_dispute_8 : decode b_LW_dispute 8 = .ok (.i2l, 1) := by decide +kernel
theorem d_LW_dispute_9 : decode b_LW_dispute 9 = .ok (.lastore, 1) := by decide +kernel
theorem d_LW_dispute_10 : decode b_LW_dispute 10 = .ok (.goto 7, 3) := by decide +kernel
theorem d_LW_dispute_13 : decode b_LW_dispute 13 = .ok (.astore 4, 2) := by decide +kernel
theorem d_LW_dispute_15 : decode b_LW_dispute 15 = .ok (.iconst 1, 1) := by decide +kernel
theorem d_LW_dispute_16 : decode b_LW_dispute 16 = .ok (.ireturn, 1) := by decide +kernel
theorem d_LW_dispute_17 : decode b_LW_dispute 17 = .ok (.iconst 0, 1) := by decide +kernel
theorem d_LW_dispute_18 : decode b_LW_dispute 18 = .ok (.ireturn, 1) := by decide +kernel
theorem d_LW_pay_0 : decode b_LW_pay 0 = .ok (.aload 4, 2) := by decide +kernel
theorem d_LW_pay_2 : decode b_LW_pay 2 = .ok (.iconst 0, 1) := by decide +kernel
theorem d_LW_pay_3 : decode b_LW_pay 3 = .ok (.aload_n 0, 1) := by decide +kernel
theorem d_LW_pay_4 : decode b_LW_pay 4 = .ok (.iload_n 1, 1) := by decide +kernel
theorem d_LW_pay_5 : decode b_LW_pay 5 = .ok (.lload_n 2, 1) := by decide +kernel
theorem d_LW_pay_6 : decode b_LW_pay 6 = .ok (.invokevirtual 33, 3) := by decide +kernel
theorem d_LW_pay_9 : decode b_LW_pay 9 = .ok (.lastore, 1) := by decide +kernel
theorem d_LW_pay_10 : decode b_LW_pay 10 = .ok (.goto 7, 3) := by decide +kernel
theorem d_LW_pay_13 : decode b_LW_pay 13 = .ok (.astore 5, 2) := by decide +kernel
theorem d_LW_pay_15 : decode b_LW_pay 15 = .ok (.iconst 1, 1) := by decide +kernel
theorem d_LW_pay_16 : decode b_LW_pay 16 = .ok (.ireturn, 1) := by decide +kernel
theorem d_LW_pay_17 : decode b_LW_pay 17 = .ok (.iconst 0, 1) := by decide +kernel
theorem d_LW_pay_18 : decode b_LW_pay 18 = .ok (.ireturn, 1) := by decide +kernel
theorem d_LW_unpaid_0 : decode b_LW_unpaid 0 = .ok (.aload_n 2, 1) := by decide +kernel
theorem d_LW_unpaid_1 : decode b_LW_unpaid 1 = .ok (.iconst 0, 1) := by decide +kernel
theorem d_LW_unpaid_2 : decode b_LW_unpaid 2 = .ok (.aload_n 0, 1) := by decide +kernel
theorem d_LW_unpaid_3 : decode b_LW_unpaid 3 = .ok (.iload_n 1, 1) := by decide +kernel
theorem d_LW_unpaid_4 : decode b_LW_unpaid 4 = .ok (.invokevirtual 37, 3) := by decide +kernel
theorem d_LW_unpaid_7 : decode b_LW_unpaid 7 = .ok (.lastore, 1) := by decide +kernel
theorem d_LW_unpaid_8 : decode b_LW_unpaid 8 = .ok (.goto 6, 3) := by decide +kernel
theorem d_LW_unpaid_11 : decode b_LW_unpaid 11 = .ok (.astore_n 3, 1) := by decide +kernel
theorem d_LW_unpaid_12 : decode b_LW_unpaid 12 = .ok (.iconst 1, 1) := by decide +kernel
theorem d_LW_unpaid_13 : decode b_LW_unpaid 13 = .ok (.ireturn, 1) := by decide +kernel
theorem d_LW_unpaid_14 : decode b_LW_unpaid 14 = .ok (.iconst 0, 1) := by decide +kernel
theorem d_LW_unpaid_15 : decode b_LW_unpaid 15 = .ok (.ireturn, 1) := by decide +kernel
theorem d_LW_share_0 : decode b_LW_share 0 = .ok (.aload 5, 2) := by decide +kernel
theorem d_LW_share_2 : decode b_LW_share 2 = .ok (.iconst 0, 1) := by decide +kernel
theorem d_LW_share_3 : decode b_LW_share 3 = .ok (.aload_n 0, 1) := by decide +kernel
theorem d_LW_share_4 : decode b_LW_share 4 = .ok (.lload_n 1, 1) := by decide +kernel
theorem d_LW_share_5 : decode b_LW_share 5 = .ok (.iload_n 3, 1) := by decide +kernel
theorem d_LW_share_6 : decode b_LW_share 6 = .ok (.iload 4, 2) := by decide +kernel
theorem d_LW_share_8 : decode b_LW_share 8 = .ok (.invokevirtual 41, 3) := by decide +kernel
theorem d_LW_share_11 : decode b_LW_share 11 = .ok (.lastore, 1) := by decide +kernel
theorem d_LW_share_12 : decode b_LW_share 12 = .ok (.goto 11, 3) := by decide +kernel
theorem d_LW_share_15 : decode b_LW_share 15 = .ok (.astore 6, 2) := by decide +kernel
theorem d_LW_share_17 : decode b_LW_share 17 = .ok (.iconst 1, 1) := by decide +kernel
theorem d_LW_share_18 : decode b_LW_share 18 = .ok (.ireturn, 1) := by decide +kernel
theorem d_LW_share_19 : decode b_LW_share 19 = .ok (.astore 6, 2) := by decide +kernel
theorem d_LW_share_21 : decode b_LW_share 21 = .ok (.iconst 2, 1) := by decide +kernel
theorem d_LW_share_22 : decode b_LW_share 22 = .ok (.ireturn, 1) := by decide +kernel
theorem d_LW_share_23 : decode b_LW_share 23 = .ok (.iconst 0, 1) := by decide +kernel
theorem d_LW_share_24 : decode b_LW_share 24 = .ok (.ireturn, 1) := by decide +kernel
theorem d_LW_line_0 : decode b_LW_line 0 = .ok (.aload_n 3, 1) := by decide +kernel
theorem d_LW_line_1 : decode b_LW_line 1 = .ok (.iconst 0, 1) := by decide +kernel
theorem d_LW_line_2 : decode b_LW_line 2 = .ok (.aload_n 0, 1) := by decide +kernel
theorem d_LW_line_3 : decode b_LW_line 3 = .ok (.iload_n 1, 1) := by decide +kernel
theorem d_LW_line_4 : decode b_LW_line 4 = .ok (.iload_n 2, 1) := by decide +kernel
theorem d_LW_line_5 : decode b_LW_line 5 = .ok (.invokevirtual 47, 3) := by decide +kernel
theorem d_LW_line_8 : decode b_LW_line 8 = .ok (.lastore, 1) := by decide +kernel
theorem d_LW_line_9 : decode b_LW_line 9 = .ok (.goto 7, 3) := by decide +kernel
theorem d_LW_line_12 : decode b_LW_line 12 = .ok (.astore 4, 2) := by decide +kernel
theorem d_LW_line_14 : decode b_LW_line 14 = .ok (.iconst 1, 1) := by decide +kernel
theorem d_LW_line_15 : decode b_LW_line 15 = .ok (.ireturn, 1) := by decide +kernel
theorem d_LW_line_16 : decode b_LW_line 16 = .ok (.iconst 0, 1) := by decide +kernel
theorem d_LW_line_17 : decode b_LW_line 17 = .ok (.ireturn, 1) := by decide +kernel
theorem d_LW_law_0 : decode b_LW_law 0 = .ok (.new 8, 3) := by decide +kernel
theorem d_LW_law_3 : decode b_LW_law 3 = .ok (.dup, 1) := by decide +kernel
theorem d_LW_law_4 : decode b_LW_law 4 = .ok (.invokespecial 53, 3) := by decide +kernel
theorem d_LW_law_7 : decode b_LW_law 7 = .ok (.astore_n 1, 1) := by decide +kernel
theorem d_LW_law_8 : decode b_LW_law 8 = .ok (.new 54, 3) := by decide +kernel
theorem d_LW_law_11 : decode b_LW_law 11 = .ok (.dup, 1) := by decide +kernel
theorem d_LW_law_12 : decode b_LW_law 12 = .ok (.invokespecial 56, 3) := by decide +kernel
theorem d_LW_law_15 : decode b_LW_law 15 = .ok (.astore_n 2, 1) := by decide +kernel
theorem d_LW_law_16 : decode b_LW_law 16 = .ok (.iconst 1, 1) := by decide +kernel
theorem d_LW_law_17 : decode b_LW_law 17 = .ok (.newarray .long, 2) := by decide +kernel
theorem d_LW_law_19 : decode b_LW_law 19 = .ok (.astore_n 3, 1) := by decide +kernel
theorem d_LW_law_20 : decode b_LW_law 20 = .ok (.iconst 0, 1) := by decide +kernel
theorem d_LW_law_21 : decode b_LW_law 21 = .ok (.istore 4, 2) := by decide +kernel
theorem d_LW_law_23 : decode b_LW_law 23 = .ok (.iload 4, 2) := by decide +kernel
theorem d_LW_law_25 : decode b_LW_law 25 = .ok (.aload_n 0, 1) := by decide +kernel
theorem d_LW_law_26 : decode b_LW_law 26 = .ok (.arraylength, 1) := by decide +kernel
theorem d_LW_law_27 : decode b_LW_law 27 = .ok (.iconst 5, 1) := by decide +kernel
theorem d_LW_law_28 : decode b_LW_law 28 = .ok (.isub, 1) := by decide +kernel
theorem d_LW_law_29 : decode b_LW_law 29 = .ok (.if_icmp .gt 925, 3) := by decide +kernel
theorem d_LW_law_32 : decode b_LW_law 32 = .ok (.aload_n 0, 1) := by decide +kernel
theorem d_LW_law_33 : decode b_LW_law 33 = .ok (.iload 4, 2) := by decide +kernel
theorem d_LW_law_35 : decode b_LW_law 35 = .ok (.iaload, 1) := by decide +kernel
theorem d_LW_law_36 : decode b_LW_law 36 = .ok (.bipush 15, 2) := by decide +kernel
theorem d_LW_law_38 : decode b_LW_law 38 = .ok (.iand, 1) := by decide +kernel
theorem d_LW_law_39 : decode b_LW_law 39 = .ok (.tableswitch 909 0 12 #[65, 90, 103, 171, 251, 312, 368, 468, 552, 651, 706, 817, 884], 65) := by decide +kernel
theorem d_LW_law_104 : decode b_LW_law 104 = .ok (.aload_n 1, 1) := by decide +kernel
theorem d_LW_law_105 : decode b_LW_law 105 = .ok (.aload_n 0, 1) := by decide +kernel
theorem d_LW_law_106 : decode b_LW_law 106 = .ok (.iload 4, 2) := by decide +kernel
theorem d_LW_law_108 : decode b_LW_law 108 = .ok (.iconst 1, 1) := by decide +kernel
theorem d_LW_law_109 : decode b_LW_law 109 = .ok (.iadd, 1) := by decide +kernel
theorem d_LW_law_110 : decode b_LW_law 110 = .ok (.iaload, 1) := by decide +kernel
theorem d_LW_law_111 : decode b_LW_law 111 = .ok (.invokevirtual 57, 3) := by decide +kernel
theorem d_LW_law_114 : decode b_LW_law 114 = .ok (.aload_n 2, 1) := by decide +kernel
theorem d_LW_law_115 : decode b_LW_law 115 = .ok (.aload_n 0, 1) := by decide +kernel
theorem d_LW_law_116 : decode b_LW_law 116 = .ok (.iload 4, 2) := by decide +kernel
theorem d_LW_law_118 : decode b_LW_law 118 = .ok (.iconst 1, 1) := by decide +kernel
theorem d_LW_law_119 : decode b_LW_law 119 = .ok (.iadd, 1) := by decide +kernel
theorem d_LW_law_120 : decode b_LW_law 120 = .ok (.iaload, 1) := by decide +kernel
theorem d_LW_law_121 : decode b_LW_law 121 = .ok (.invokevirtual 61, 3) := by decide +kernel
theorem d_LW_law_124 : decode b_LW_law 124 = .ok (.if_icmp .eq 824, 3) := by decide +kernel
theorem d_LW_law_127 : decode b_LW_law 127 = .ok (.iconst 0, 1) := by decide +kernel
theorem d_LW_law_128 : decode b_LW_law 128 = .ok (.ireturn, 1) := by decide +kernel
theorem d_LW_law_129 : decode b_LW_law 129 = .ok (.aload_n 1, 1) := by decide +kernel
theorem d_LW_law_130 : decode b_LW_law 130 = .ok (.invokevirtual 62, 3) := by decide +kernel
theorem d_LW_law_133 : decode b_LW_law 133 = .ok (.aload_n 2, 1) := by decide +kernel
theorem d_LW_law_134 : decode b_LW_law 134 = .ok (.invokevirtual 66, 3) := by decide +kernel
theorem d_LW_law_137 : decode b_LW_law 137 = .ok (.if_icmp .eq 811, 3) := by decide +kernel
theorem d_LW_law_140 : decode b_LW_law 140 = .ok (.iconst 0, 1) := by decide +kernel
theorem d_LW_law_141 : decode b_LW_law 141 = .ok (.ireturn, 1) := by decide +kernel
theorem d_LW_law_142 : decode b_LW_law 142 = .ok (.aload_n 1, 1) := by decide +kernel
theorem d_LW_law_143 : decode b_LW_law 143 = .ok (.aload_n 0, 1) := by decide +kernel
theorem d_LW_law_144 : decode b_LW_law 144 = .ok (.iload 4, 2) := by decide +kernel
theorem d_LW_law_146 : decode b_LW_law 146 = .ok (.iconst 1, 1) := by decide +kernel
theorem d_LW_law_147 : decode b_LW_law 147 = .ok (.iadd, 1) := by decide +kernel
theorem d_LW_law_148 : decode b_LW_law 148 = .ok (.iaload, 1) := by decide +kernel
theorem d_LW_law_149 : decode b_LW_law 149 = .ok (.aload_n 0, 1) := by decide +kernel
theorem d_LW_law_150 : decode b_LW_law 150 = .ok (.iload 4, 2) := by decide +kernel
theorem d_LW_law_152 : decode b_LW_law 152 = .ok (.iconst 2, 1) := by decide +kernel
theorem d_LW_law_153 : decode b_LW_law 153 = .ok (.iadd, 1) := by decide +kernel
theorem d_LW_law_154 : decode b_LW_law 154 = .ok (.iaload, 1) := by decide +kernel
theorem d_LW_law_155 : decode b_LW_law 155 = .ok (.aload_n 3, 1) := by decide +kernel
theorem d_LW_law_156 : decode b_LW_law 156 = .ok (.invokestatic 67, 3) := by decide +kernel
theorem d_LW_law_159 : decode b_LW_law 159 = .ok (.istore 5, 2) := by decide +kernel
theorem d_LW_law_161 : decode b_LW_law 161 = .ok (.aload_n 2, 1) := by decide +kernel
theorem d_LW_law_162 : decode b_LW_law 162 = .ok (.aload_n 0, 1) := by decide +kernel
theorem d_LW_law_163 : decode b_LW_law 163 = .ok (.iload 4, 2) := by decide +kernel
theorem d_LW_law_165 : decode b_LW_law 165 = .ok (.iconst 1, 1) := by decide +kernel
theorem d_LW_law_166 : decode b_LW_law 166 = .ok (.iadd, 1) := by decide +kernel
theorem d_LW_law_167 : decode b_LW_law 167 = .ok (.iaload, 1) := by decide +kernel
theorem d_LW_law_168 : decode b_LW_law 168 = .ok (.aload_n 0, 1) := by decide +kernel
theorem d_LW_law_169 : decode b_LW_law 169 = .ok (.iload 4, 2) := by decide +kernel
theorem d_LW_law_171 : decode b_LW_law 171 = .ok (.iconst 2, 1) := by decide +kernel
theorem d_LW_law_172 : decode b_LW_law 172 = .ok (.iadd, 1) := by decide +kernel
theorem d_LW_law_173 : decode b_LW_law 173 = .ok (.iaload, 1) := by decide +kernel
theorem d_LW_law_174 : decode b_LW_law 174 = .ok (.invokevirtual 72, 3) := by decide +kernel
theorem d_LW_law_177 : decode b_LW_law 177 = .ok (.istore 6, 2) := by decide +kernel
theorem d_LW_law_179 : decode b_LW_law 179 = .ok (.aload_n 2, 1) := by decide +kernel
theorem d_LW_law_180 : decode b_LW_law 180 = .ok (.invokevirtual 73, 3) := by decide +kernel
theorem d_LW_law_183 : decode b_LW_law 183 = .ok (.iload 5, 2) := by decide +kernel
theorem d_LW_law_185 : decode b_LW_law 185 = .ok (.if_icmp .eq 5, 3) := by decide +kernel
theorem d_LW_law_188 : decode b_LW_law 188 = .ok (.iconst 0, 1) := by decide +kernel
theorem d_LW_law_189 : decode b_LW_law 189 = .ok (.ireturn, 1) := by decide +kernel
theorem d_LW_law_190 : decode b_LW_law 190 = .ok (.iload 5, 2) := by decide +kernel
theorem d_LW_law_192 : decode b_LW_law 192 = .ok (.ifCond .ne 15, 3) := by decide +kernel
theorem d_LW_law_195 : decode b_LW_law 195 = .ok (.aload_n 3, 1) := by decide +kernel
theorem d_LW_law_196 : decode b_LW_law 196 = .ok (.iconst 0, 1) := by decide +kernel
theorem d_LW_law_197 : decode b_LW_law 197 = .ok (.laload, 1) := by decide +kernel
theorem d_LW_law_198 : decode b_LW_law 198 = .ok (.iload 6, 2) := by decide +kernel
theorem d_LW_law_200 : decode b_LW_law 200 = .ok (.i2l, 1) := by decide +kernel
theorem d_LW_law_201 : decode b_LW_law 201 = .ok (.lcmp, 1) := by decide +kernel
theorem d_LW_law_202 : decode b_LW_law 202 = .ok (.ifCond .eq 5, 3) := by decide +kernel
theorem d_LW_law_205 : decode b_LW_law 205 = .ok (.iconst 0, 1) := by decide +kernel
theorem d_LW_law_206 : decode b_LW_law 206 = .ok (.ireturn, 1) := by decide +kernel
theorem d_LW_law_207 : decode b_LW_law 207 = .ok (.goto 741, 3) := by decide +kernel
theorem d_LW_law_210 : decode b_LW_law 210 = .ok (.aload_n 1, 1) := by decide +kernel
theorem d_LW_law_211 : decode b_LW_law 211 = .ok (.aload_n 0, 1) := by decide +kernel
theorem d_LW_law_212 : decode b_LW_law 212 = .ok (.iload 4, 2) := by decide +kernel
theorem d_LW_law_214 : decode b_LW_law 214 = .ok (.iconst 1, 1) := by decide +kernel
theorem d_LW_law_215 : decode b_LW_law 215 = .ok (.iadd, 1) := by decide +kernel
theorem d_LW_law_216 : decode b_LW_law 216 = .ok (.iaload, 1) := by decide +kernel
theorem d_LW_law_217 : decode b_LW_law 217 = .ok (.aload_n 0, 1) := by decide +kernel
theorem d_LW_law_218 : decode b_LW_law 218 = .ok (.iload 4, 2) := by decide +kernel
theorem d_LW_law_220 : decode b_LW_law 220 = .ok (.iconst 2, 1) := by decide +kernel
theorem d_LW_law_221 : decode b_LW_law 221 = .ok (.iadd, 1) := by decide +kernel
theorem d_LW_law_222 : decode b_LW_law 222 = .ok (.iaload, 1) := by decide +kernel
theorem d_LW_law_223 : decode b_LW_law 223 = .ok (.aload_n 0, 1) := by decide +kernel
theorem d_LW_law_224 : decode b_LW_law 224 = .ok (.iload 4, 2) := by decide +kernel
theorem d_LW_law_226 : decode b_LW_law 226 = .ok (.iconst 3, 1) := by decide +kernel
theorem d_LW_law_227 : decode b_LW_law 227 = .ok (.iadd, 1) := by decide +kernel
theorem d_LW_law_228 : decode b_LW_law 228 = .ok (.iaload, 1) := by decide +kernel
theorem d_LW_law_229 : decode b_LW_law 229 = .ok (.aload_n 3, 1) := by decide +kernel
theorem d_LW_law_230 : decode b_LW_law 230 = .ok (.invokestatic 76, 3) := by decide +kernel
theorem d_LW_law_233 : decode b_LW_law 233 = .ok (.istore 5, 2) := by decide +kernel
theorem d_LW_law_235 : decode b_LW_law 235 = .ok (.aload_n 2, 1) := by decide +kernel
theorem d_LW_law_236 : decode b_LW_law 236 = .ok (.aload_n 0, 1) := by decide +kernel
theorem d_LW_law_237 : decode b_LW_law 237 = .ok (.iload 4, 2) := by decide +kernel
theorem d_LW_law_239 : decode b_LW_law 239 = .ok (.iconst 1, 1) := by decide +kernel
theorem d_LW_law_240 : decode b_LW_law 240 = .ok (.iadd, 1) := by decide +kernel
theorem d_LW_law_241 : decode b_LW_law 241 = .ok (.iaload, 1) := by decide +kernel
theorem d_LW_law_242 : decode b_LW_law 242 = .ok (.aload_n 0, 1) := by decide +kernel
theorem d_LW_law_243 : decode b_LW_law 243 = .ok (.iload 4, 2) := by decide +kernel
theorem d_LW_law_245 : decode b_LW_law 245 = .ok (.iconst 2, 1) := by decide +kernel
theorem d_LW_law_246 : decode b_LW_law 246 = .ok (.iadd, 1) := by decide +kernel
theorem d_LW_law_247 : decode b_LW_law 247 = .ok (.iaload, 1) := by decide +kernel
theorem d_LW_law_248 : decode b_LW_law 248 = .ok (.aload_n 0, 1) := by decide +kernel
theorem d_LW_law_249 : decode b_LW_law 249 = .ok (.iload 4, 2) := by decide +kernel
theorem d_LW_law_251 : decode b_LW_law 251 = .ok (.iconst 3, 1) := by decide +kernel
theorem d_LW_law_252 : decode b_LW_law 252 = .ok (.iadd, 1) := by decide +kernel
theorem d_LW_law_253 : decode b_LW_law 253 = .ok (.iaload, 1) := by decide +kernel
theorem d_LW_law_254 : decode b_LW_law 254 = .ok (.invokevirtual 79, 3) := by decide +kernel
theorem d_LW_law_257 : decode b_LW_law 257 = .ok (.istore 6, 2) := by decide +kernel
theorem d_LW_law_259 : decode b_LW_law 259 = .ok (.aload_n 2, 1) := by decide +kernel
theorem d_LW_law_260 : decode b_LW_law 260 = .ok (.invokevirtual 73, 3) := by decide +kernel
theorem d_LW_law_263 : decode b_LW_law 263 = .ok (.iload 5, 2) := by decide +kernel
theorem d_LW_law_265 : decode b_LW_law 265 = .ok (.if_icmp .eq 5, 3) := by decide +kernel
theorem d_LW_law_268 : decode b_LW_law 268 = .ok (.iconst 0, 1) := by decide +kernel
theorem d_LW_law_269 : decode b_LW_law 269 = .ok (.ireturn, 1) := by decide +kernel
theorem d_LW_law_270 : decode b_LW_law 270 = .ok (.iload 5, 2) := by decide +kernel
theorem d_LW_law_272 : decode b_LW_law 272 = .ok (.ifCond .ne 15, 3) := by decide +kernel
theorem d_LW_law_275 : decode b_LW_law 275 = .ok (.aload_n 3, 1) := by decide +kernel
theorem d_LW_law_276 : decode b_LW_law 276 = .ok (.iconst 0, 1) := by decide +kernel
theorem d_LW_law_277 : decode b_LW_law 277 = .ok (.laload, 1) := by decide +kernel
theorem d_LW_law_278 : decode b_LW_law 278 = .ok (.iload 6, 2) := by decide +kernel
theorem d_LW_law_280 : decode b_LW_law 280 = .ok (.i2l, 1) := by decide +kernel
theorem d_LW_law_281 : decode b_LW_law 281 = .ok (.lcmp, 1) := by decide +kernel
theorem d_LW_law_282 : decode b_LW_law 282 = .ok (.ifCond .eq 5, 3) := by decide +kernel
theorem d_LW_law_285 : decode b_LW_law 285 = .ok (.iconst 0, 1) := by decide +kernel
theorem d_LW_law_286 : decode b_LW_law 286 = .ok (.ireturn, 1) := by decide +kernel
theorem d_LW_law_287 : decode b_LW_law 287 = .ok (.goto 661, 3) := by decide +kernel
theorem d_LW_law_290 : decode b_LW_law 290 = .ok (.aload_n 1, 1) := by decide +kernel
theorem d_LW_law_291 : decode b_LW_law 291 = .ok (.aload_n 0, 1) := by decide +kernel
theorem d_LW_law_292 : decode b_LW_law 292 = .ok (.iload 4, 2) := by decide +kernel
theorem d_LW_law_294 : decode b_LW_law 294 = .ok (.iconst 1, 1) := by decide +kernel
theorem d_LW_law_295 : decode b_LW_law 295 = .ok (.iadd, 1) := by decide +kernel
theorem d_LW_law_296 : decode b_LW_law 296 = .ok (.iaload, 1) := by decide +kernel
theorem d_LW_law_297 : decode b_LW_law 297 = .ok (.aload_n 0, 1) := by decide +kernel
theorem d_LW_law_298 : decode b_LW_law 298 = .ok (.iload 4, 2) := by decide +kernel
theorem d_LW_law_300 : decode b_LW_law 300 = .ok (.iconst 2, 1) := by decide +kernel
theorem d_LW_law_301 : decode b_LW_law 301 = .ok (.iadd, 1) := by decide +kernel
theorem d_LW_law_302 : decode b_LW_law 302 = .ok (.iaload, 1) := by decide +kernel
theorem d_LW_law_303 : decode b_LW_law 303 = .ok (.aload_n 0, 1) := by decide +kernel
theorem d_LW_law_304 : decode b_LW_law 304 = .ok (.iload 4, 2) := by decide +kernel
theorem d_LW_law_306 : decode b_LW_law 306 = .ok (.iconst 3, 1) := by decide +kernel
theorem d_LW_law_307 : decode b_LW_law 307 = .ok (.iadd, 1) := by decide +kernel
theorem d_LW_law_308 : decode b_LW_law 308 = .ok (.iaload, 1) := by decide +kernel
theorem d_LW_law_309 : decode b_LW_law 309 = .ok (.aload_n 0, 1) := by decide +kernel
theorem d_LW_law_310 : decode b_LW_law 310 = .ok (.iload 4, 2) := by decide +kernel
theorem d_LW_law_312 : decode b_LW_law 312 = .ok (.iconst 4, 1) := by decide +kernel
theorem d_LW_law_313 : decode b_LW_law 313 = .ok (.iadd, 1) := by decide +kernel
theorem d_LW_law_314 : decode b_LW_law 314 = .ok (.iaload, 1) := by decide +kernel
theorem d_LW_law_315 : decode b_LW_law 315 = .ok (.invokevirtual 80, 3) := by decide +kernel
theorem d_LW_law_318 : decode b_LW_law 318 = .ok (.aload_n 2, 1) := by decide +kernel
theorem d_LW_law_319 : decode b_LW_law 319 = .ok (.aload_n 0, 1) := by decide +kernel
theorem d_LW_law_320 : decode b_LW_law 320 = .ok (.iload 4, 2) := by decide +kernel
theorem d_LW_law_322 : decode b_LW_law 322 = .ok (.iconst 1, 1) := by decide +kernel
theorem d_LW_law_323 : decode b_LW_law 323 = .ok (.iadd, 1) := by decide +kernel
theorem d_LW_law_324 : decode b_LW_law 324 = .ok (.iaload, 1) := by decide +kernel
theorem d_LW_law_325 : decode b_LW_law 325 = .ok (.aload_n 0, 1) := by decide +kernel
theorem d_LW_law_326 : decode b_LW_law 326 = .ok (.iload 4, 2) := by decide +kernel
theorem d_LW_law_328 : decode b_LW_law 328 = .ok (.iconst 2, 1) := by decide +kernel
theorem d_LW_law_329 : decode b_LW_law 329 = .ok (.iadd, 1) := by decide +kernel
theorem d_LW_law_330 : decode b_LW_law 330 = .ok (.iaload, 1) := by decide +kernel
theorem d_LW_law_331 : decode b_LW_law 331 = .ok (.aload_n 0, 1) := by decide +kernel
theorem d_LW_law_332 : decode b_LW_law 332 = .ok (.iload 4, 2) := by decide +kernel
theorem d_LW_law_334 : decode b_LW_law 334 = .ok (.iconst 3, 1) := by decide +kernel
theorem d_LW_law_335 : decode b_LW_law 335 = .ok (.iadd, 1) := by decide +kernel
theorem d_LW_law_336 : decode b_LW_law 336 = .ok (.iaload, 1) := by decide +kernel
theorem d_LW_law_337 : decode b_LW_law 337 = .ok (.aload_n 0, 1) := by decide +kernel
theorem d_LW_law_338 : decode b_LW_law 338 = .ok (.iload 4, 2) := by decide +kernel
theorem d_LW_law_340 : decode b_LW_law 340 = .ok (.iconst 4, 1) := by decide +kernel
theorem d_LW_law_341 : decode b_LW_law 341 = .ok (.iadd, 1) := by decide +kernel
theorem d_LW_law_342 : decode b_LW_law 342 = .ok (.iaload, 1) := by decide +kernel
theorem d_LW_law_343 : decode b_LW_law 343 = .ok (.invokevirtual 84, 3) := by decide +kernel
theorem d_LW_law_346 : decode b_LW_law 346 = .ok (.if_icmp .eq 602, 3) := by decide +kernel
theorem d_LW_law_349 : decode b_LW_law 349 = .ok (.iconst 0, 1) := by decide +kernel
theorem d_LW_law_350 : decode b_LW_law 350 = .ok (.ireturn, 1) := by decide +kernel
theorem d_LW_law_351 : decode b_LW_law 351 = .ok (.aload_n 1, 1) := by decide +kernel
theorem d_LW_law_352 : decode b_LW_law 352 = .ok (.aload_n 0, 1) := by decide +kernel
theorem d_LW_law_353 : decode b_LW_law 353 = .ok (.iload 4, 2) := by decide +kernel
theorem d_LW_law_355 : decode b_LW_law 355 = .ok (.iconst 1, 1) := by decide +kernel
theorem d_LW_law_356 : decode b_LW_law 356 = .ok (.iadd, 1) := by decide +kernel
theorem d_LW_law_357 : decode b_LW_law 357 = .ok (.iaload, 1) := by decide +kernel
theorem d_LW_law_358 : decode b_LW_law 358 = .ok (.aload_n 3, 1) := by decide +kernel
theorem d_LW_law_359 : decode b_LW_law 359 = .ok (.invokestatic 85, 3) := by decide +kernel
theorem d_LW_law_362 : decode b_LW_law 362 = .ok (.istore 5, 2) := by decide +kernel
theorem d_LW_law_364 : decode b_LW_law 364 = .ok (.aload_n 2, 1) := by decide +kernel
theorem d_LW_law_365 : decode b_LW_law 365 = .ok (.aload_n 0, 1) := by decide +kernel
theorem d_LW_law_366 : decode b_LW_law 366 = .ok (.iload 4, 2) := by decide +kernel
theorem d_LW_law_368 : decode b_LW_law 368 = .ok (.iconst 1, 1) := by decide +kernel
theorem d_LW_law_369 : decode b_LW_law 369 = .ok (.iadd, 1) := by decide +kernel
theorem d_LW_law_370 : decode b_LW_law 370 = .ok (.iaload, 1) := by decide +kernel
theorem d_LW_law_371 : decode b_LW_law 371 = .ok (.invokevirtual 88, 3) := by decide +kernel
theorem d_LW_law_374 : decode b_LW_law 374 = .ok (.istore 6, 2) := by decide +kernel
theorem d_LW_law_376 : decode b_LW_law 376 = .ok (.aload_n 2, 1) := by decide +kernel
theorem d_LW_law_377 : decode b_LW_law 377 = .ok (.invokevirtual 73, 3) := by decide +kernel
theorem d_LW_law_380 : decode b_LW_law 380 = .ok (.iload 5, 2) := by decide +kernel
theorem d_LW_law_382 : decode b_LW_law 382 = .ok (.if_icmp .eq 5, 3) := by decide +kernel
theorem d_LW_law_385 : decode b_LW_law 385 = .ok (.iconst 0, 1) := by decide +kernel
theorem d_LW_law_386 : decode b_LW_law 386 = .ok (.ireturn, 1) := by decide +kernel
theorem d_LW_law_387 : decode b_LW_law 387 = .ok (.iload 5, 2) := by decide +kernel
theorem d_LW_law_389 : decode b_LW_law 389 = .ok (.ifCond .ne 15, 3) := by decide +kernel
theorem d_LW_law_392 : decode b_LW_law 392 = .ok (.aload_n 3, 1) := by decide +kernel
theorem d_LW_law_393 : decode b_LW_law 393 = .ok (.iconst 0, 1) := by decide +kernel
theorem d_LW_law_394 : decode b_LW_law 394 = .ok (.laload, 1) := by decide +kernel
theorem d_LW_law_395 : decode b_LW_law 395 = .ok (.iload 6, 2) := by decide +kernel
theorem d_LW_law_397 : decode b_LW_law 397 = .ok (.i2l, 1) := by decide +kernel
theorem d_LW_law_398 : decode b_LW_law 398 = .ok (.lcmp, 1) := by decide +kernel
theorem d_LW_law_399 : decode b_LW_law 399 = .ok (.ifCond .eq 5, 3) := by decide +kernel
theorem d_LW_law_402 : decode b_LW_law 402 = .ok (.iconst 0, 1) := by decide +kernel
theorem d_LW_law_403 : decode b_LW_law 403 = .ok (.ireturn, 1) := by decide +kernel
theorem d_LW_law_404 : decode b_LW_law 404 = .ok (.goto 544, 3) := by decide +kernel
theorem d_LW_law_407 : decode b_LW_law 407 = .ok (.aload_n 1, 1) := by decide +kernel
theorem d_LW_law_408 : decode b_LW_law 408 = .ok (.aload_n 0, 1) := by decide +kernel
theorem d_LW_law_409 : decode b_LW_law 409 = .ok (.iload 4, 2) := by decide +kernel
theorem d_LW_law_411 : decode b_LW_law 411 = .ok (.iconst 1, 1) := by decide +kernel
theorem d_LW_law_412 : decode b_LW_law 412 = .ok (.iadd, 1) := by decide +kernel
theorem d_LW_law_413 : decode b_LW_law 413 = .ok (.iaload, 1) := by decide +kernel
theorem d_LW_law_414 : decode b_LW_law 414 = .ok (.aload_n 0, 1) := by decide +kernel
theorem d_LW_law_415 : decode b_LW_law 415 = .ok (.iload 4, 2) := by decide +kernel
theorem d_LW_law_417 : decode b_LW_law 417 = .ok (.iconst 2, 1) := by decide +kernel
theorem d_LW_law_418 : decode b_LW_law 418 = .ok (.iadd, 1) := by decide +kernel
theorem d_LW_law_419 : decode b_LW_law 419 = .ok (.iaload, 1) := by decide +kernel
theorem d_LW_law_420 : decode b_LW_law 420 = .ok (.i2l, 1) := by decide +kernel
theorem d_LW_law_421 : decode b_LW_law 421 = .ok (.bipush 32, 2) := by decide +kernel
theorem d_LW_law_423 : decode b_LW_law 423 = .ok (.lshl, 1) := by decide +kernel
theorem d_LW_law_424 : decode b_LW_law 424 = .ok (.aload_n 0, 1) := by decide +kernel
theorem d_LW_law_425 : decode b_LW_law 425 = .ok (.iload 4, 2) := by decide +kernel
theorem d_LW_law_427 : decode b_LW_law 427 = .ok (.iconst 3, 1) := by decide +kernel
theorem d_LW_law_428 : decode b_LW_law 428 = .ok (.iadd, 1) := by decide +kernel
theorem d_LW_law_429 : decode b_LW_law 429 = .ok (.iaload, 1) := by decide +kernel
theorem d_LW_law_430 : decode b_LW_law 430 = .ok (.i2l, 1) := by decide +kernel
theorem d_LW_law_431 : decode b_LW_law 431 = .ok (.ldc2_w 89, 3) := by decide +kernel
theorem d_LW_law_434 : decode b_LW_law 434 = .ok (.land, 1) := by decide +kernel
theorem d_LW_law_435 : decode b_LW_law 435 = .ok (.lor, 1) := by decide +kernel
theorem d_LW_law_436 : decode b_LW_law 436 = .ok (.aload_n 3, 1) := by decide +kernel
theorem d_LW_law_437 : decode b_LW_law 437 = .ok (.invokestatic 91, 3) := by decide +kernel
theorem d_LW_law_440 : decode b_LW_law 440 = .ok (.istore 5, 2) := by decide +kernel
theorem d_LW_law_442 : decode b_LW_law 442 = .ok (.aload_n 2, 1) := by decide +kernel
theorem d_LW_law_443 : decode b_LW_law 443 = .ok (.aload_n 0, 1) := by decide +kernel
theorem d_LW_law_444 : decode b_LW_law 444 = .ok (.iload 4, 2) := by decide +kernel
theorem d_LW_law_446 : decode b_LW_law 446 = .ok (.iconst 1, 1) := by decide +kernel
theorem d_LW_law_447 : decode b_LW_law 447 = .ok (.iadd, 1) := by decide +kernel
theorem d_LW_law_448 : decode b_LW_law 448 = .ok (.iaload, 1) := by decide +kernel
theorem d_LW_law_449 : decode b_LW_law 449 = .ok (.aload_n 0, 1) := by decide +kernel
theorem d_LW_law_450 : decode b_LW_law 450 = .ok (.iload 4, 2) := by decide +kernel
theorem d_LW_law_452 : decode b_LW_law 452 = .ok (.iconst 2, 1) := by decide +kernel
theorem d_LW_law_453 : decode b_LW_law 453 = .ok (.iadd, 1) := by decide +kernel
theorem d_LW_law_454 : decode b_LW_law 454 = .ok (.iaload, 1) := by decide +kernel
theorem d_LW_law_455 : decode b_LW_law 455 = .ok (.i2l, 1) := by decide +kernel
theorem d_LW_law_456 : decode b_LW_law 456 = .ok (.bipush 32, 2) := by decide +kernel
theorem d_LW_law_458 : decode b_LW_law 458 = .ok (.lshl, 1) := by decide +kernel
theorem d_LW_law_459 : decode b_LW_law 459 = .ok (.aload_n 0, 1) := by decide +kernel
theorem d_LW_law_460 : decode b_LW_law 460 = .ok (.iload 4, 2) := by decide +kernel
theorem d_LW_law_462 : decode b_LW_law 462 = .ok (.iconst 3, 1) := by decide +kernel
theorem d_LW_law_463 : decode b_LW_law 463 = .ok (.iadd, 1) := by decide +kernel
theorem d_LW_law_464 : decode b_LW_law 464 = .ok (.iaload, 1) := by decide +kernel
theorem d_LW_law_465 : decode b_LW_law 465 = .ok (.i2l, 1) := by decide +kernel
theorem d_LW_law_466 : decode b_LW_law 466 = .ok (.ldc2_w 89, 3) := by decide +kernel
theorem d_LW_law_469 : decode b_LW_law 469 = .ok (.land, 1) := by decide +kernel
theorem d_LW_law_470 : decode b_LW_law 470 = .ok (.lor, 1) := by decide +kernel
theorem d_LW_law_471 : decode b_LW_law 471 = .ok (.invokevirtual 94, 3) := by decide +kernel
theorem d_LW_law_474 : decode b_LW_law 474 = .ok (.istore 6, 2) := by decide +kernel
theorem d_LW_law_476 : decode b_LW_law 476 = .ok (.aload_n 2, 1) := by decide +kernel
theorem d_LW_law_477 : decode b_LW_law 477 = .ok (.invokevirtual 73, 3) := by decide +kernel
theorem d_LW_law_480 : decode b_LW_law 480 = .ok (.iload 5, 2) := by decide +kernel
theorem d_LW_law_482 : decode b_LW_law 482 = .ok (.if_icmp .eq 5, 3) := by decide +kernel
theorem d_LW_law_485 : decode b_LW_law 485 = .ok (.iconst 0, 1) := by decide +kernel
theorem d_LW_law_486 : decode b_LW_law 486 = .ok (.ireturn, 1) := by decide +kernel
theorem d_LW_law_487 : decode b_LW_law 487 = .ok (.iload 5, 2) := by decide +kernel
theorem d_LW_law_489 : decode b_LW_law 489 = .ok (.ifCond .ne 15, 3) := by decide +kernel
theorem d_LW_law_492 : decode b_LW_law 492 = .ok (.aload_n 3, 1) := by decide +kernel
theorem d_LW_law_493 : decode b_LW_law 493 = .ok (.iconst 0, 1) := by decide +kernel
theorem d_LW_law_494 : decode b_LW_law 494 = .ok (.laload, 1) := by decide +kernel
theorem d_LW_law_495 : decode b_LW_law 495 = .ok (.iload 6, 2) := by decide +kernel
theorem d_LW_law_497 : decode b_LW_law 497 = .ok (.i2l, 1) := by decide +kernel
theorem d_LW_law_498 : decode b_LW_law 498 = .ok (.lcmp, 1) := by decide +kernel
theorem d_LW_law_499 : decode b_LW_law 499 = .ok (.ifCond .eq 5, 3) := by decide +kernel
theorem d_LW_law_502 : decode b_LW_law 502 = .ok (.iconst 0, 1) := by decide +kernel
theorem d_LW_law_503 : decode b_LW_law 503 = .ok (.ireturn, 1) := by decide +kernel
theorem d_LW_law_504 : decode b_LW_law 504 = .ok (.goto 444, 3) := by decide +kernel
theorem d_LW_law_507 : decode b_LW_law 507 = .ok (.aload_n 1, 1) := by decide +kernel
theorem d_LW_law_508 : decode b_LW_law 508 = .ok (.aload_n 0, 1) := by decide +kernel
theorem d_LW_law_509 : decode b_LW_law 509 = .ok (.iload 4, 2) := by decide +kernel
theorem d_LW_law_511 : decode b_LW_law 511 = .ok (.iconst 1, 1) := by decide +kernel
theorem d_LW_law_512 : decode b_LW_law 512 = .ok (.iadd, 1) := by decide +kernel
theorem d_LW_law_513 : decode b_LW_law 513 = .ok (.iaload, 1) := by decide +kernel
theorem d_LW_law_514 : decode b_LW_law 514 = .ok (.aload_n 0, 1) := by decide +kernel
theorem d_LW_law_515 : decode b_LW_law 515 = .ok (.iload 4, 2) := by decide +kernel
theorem d_LW_law_517 : decode b_LW_law 517 = .ok (.iconst 2, 1) := by decide +kernel
theorem d_LW_law_518 : decode b_LW_law 518 = .ok (.iadd, 1) := by decide +kernel
theorem d_LW_law_519 : decode b_LW_law 519 = .ok (.iaload, 1) := by decide +kernel
theorem d_LW_law_520 : decode b_LW_law 520 = .ok (.ifCond .eq 7, 3) := by decide +kernel
theorem d_LW_law_523 : decode b_LW_law 523 = .ok (.iconst 1, 1) := by decide +kernel
theorem d_LW_law_524 : decode b_LW_law 524 = .ok (.goto 4, 3) := by decide +kernel
theorem d_LW_law_527 : decode b_LW_law 527 = .ok (.iconst 0, 1) := by decide +kernel
theorem d_LW_law_528 : decode b_LW_law 528 = .ok (.aload_n 3, 1) := by decide +kernel
theorem d_LW_law_529 : decode b_LW_law 529 = .ok (.invokestatic 95, 3) := by decide +kernel
theorem d_LW_law_532 : decode b_LW_law 532 = .ok (.istore 5, 2) := by decide +kernel
theorem d_LW_law_534 : decode b_LW_law 534 = .ok (.aload_n 2, 1) := by decide +kernel
theorem d_LW_law_535 : decode b_LW_law 535 = .ok (.aload_n 0, 1) := by decide +kernel
theorem d_LW_law_536 : decode b_LW_law 536 = .ok (.iload 4, 2) := by decide +kernel
theorem d_LW_law_538 : decode b_LW_law 538 = .ok (.iconst 1, 1) := by decide +kernel
theorem d_LW_law_539 : decode b_LW_law 539 = .ok (.iadd, 1) := by decide +kernel
theorem d_LW_law_540 : decode b_LW_law 540 = .ok (.iaload, 1) := by decide +kernel
theorem d_LW_law_541 : decode b_LW_law 541 = .ok (.aload_n 0, 1) := by decide +kernel
theorem d_LW_law_542 : decode b_LW_law 542 = .ok (.iload 4, 2) := by decide +kernel
theorem d_LW_law_544 : decode b_LW_law 544 = .ok (.iconst 2, 1) := by decide +kernel
theorem d_LW_law_545 : decode b_LW_law 545 = .ok (.iadd, 1) := by decide +kernel
theorem d_LW_law_546 : decode b_LW_law 546 = .ok (.iaload, 1) := by decide +kernel
theorem d_LW_law_547 : decode b_LW_law 547 = .ok (.ifCond .eq 7, 3) := by decide +kernel
theorem d_LW_law_550 : decode b_LW_law 550 = .ok (.iconst 1, 1) := by decide +kernel
theorem d_LW_law_551 : decode b_LW_law 551 = .ok (.goto 4, 3) := by decide +kernel
theorem d_LW_law_554 : decode b_LW_law 554 = .ok (.iconst 0, 1) := by decide +kernel
theorem d_LW_law_555 : decode b_LW_law 555 = .ok (.invokevirtual 98, 3) := by decide +kernel
theorem d_LW_law_558 : decode b_LW_law 558 = .ok (.istore 6, 2) := by decide +kernel
theorem d_LW_law_560 : decode b_LW_law 560 = .ok (.aload_n 2, 1) := by decide +kernel
theorem d_LW_law_561 : decode b_LW_law 561 = .ok (.invokevirtual 73, 3) := by decide +kernel
theorem d_LW_law_564 : decode b_LW_law 564 = .ok (.iload 5, 2) := by decide +kernel
theorem d_LW_law_566 : decode b_LW_law 566 = .ok (.if_icmp .eq 5, 3) := by decide +kernel
theorem d_LW_law_569 : decode b_LW_law 569 = .ok (.iconst 0, 1) := by decide +kernel
theorem d_LW_law_570 : decode b_LW_law 570 = .ok (.ireturn, 1) := by decide +kernel
theorem d_LW_law_571 : decode b_LW_law 571 = .ok (.iload 5, 2) := by decide +kernel
theorem d_LW_law_573 : decode b_LW_law 573 = .ok (.ifCond .ne 15, 3) := by decide +kernel
theorem d_LW_law_576 : decode b_LW_law 576 = .ok (.aload_n 3, 1) := by decide +kernel
theorem d_LW_law_577 : decode b_LW_law 577 = .ok (.iconst 0, 1) := by decide +kernel
theorem d_LW_law_578 : decode b_LW_law 578 = .ok (.laload, 1) := by decide +kernel
theorem d_LW_law_579 : decode b_LW_law 579 = .ok (.iload 6, 2) := by decide +kernel
theorem d_LW_law_581 : decode b_LW_law 581 = .ok (.i2l, 1) := by decide +kernel
theorem d_LW_law_582 : decode b_LW_law 582 = .ok (.lcmp, 1) := by decide +kernel
theorem d_LW_law_583 : decode b_LW_law 583 = .ok (.ifCond .eq 5, 3) := by decide +kernel
theorem d_LW_law_586 : decode b_LW_law 586 = .ok (.iconst 0, 1) := by decide +kernel
theorem d_LW_law_587 : decode b_LW_law 587 = .ok (.ireturn, 1) := by decide +kernel
theorem d_LW_law_588 : decode b_LW_law 588 = .ok (.goto 360, 3) := by decide +kernel
theorem d_LW_law_591 : decode b_LW_law 591 = .ok (.aload_n 1, 1) := by decide +kernel
theorem d_LW_law_592 : decode b_LW_law 592 = .ok (.aload_n 0, 1) := by decide +kernel
theorem d_LW_law_593 : decode b_LW_law 593 = .ok (.iload 4, 2) := by decide +kernel
theorem d_LW_law_595 : decode b_LW_law 595 = .ok (.iconst 1, 1) := by decide +kernel
theorem d_LW_law_596 : decode b_LW_law 596 = .ok (.iadd, 1) := by decide +kernel
theorem d_LW_law_597 : decode b_LW_law 597 = .ok (.iaload, 1) := by decide +kernel
theorem d_LW_law_598 : decode b_LW_law 598 = .ok (.aload_n 0, 1) := by decide +kernel
theorem d_LW_law_599 : decode b_LW_law 599 = .ok (.iload 4, 2) := by decide +kernel
theorem d_LW_law_601 : decode b_LW_law 601 = .ok (.iconst 2, 1) := by decide +kernel
theorem d_LW_law_602 : decode b_LW_law 602 = .ok (.iadd, 1) := by decide +kernel
theorem d_LW_law_603 : decode b_LW_law 603 = .ok (.iaload, 1) := by decide +kernel
theorem d_LW_law_604 : decode b_LW_law 604 = .ok (.i2l, 1) := by decide +kernel
theorem d_LW_law_605 : decode b_LW_law 605 = .ok (.bipush 32, 2) := by decide +kernel
theorem d_LW_law_607 : decode b_LW_law 607 = .ok (.lshl, 1) := by decide +kernel
theorem d_LW_law_608 : decode b_LW_law 608 = .ok (.aload_n 0, 1) := by decide +kernel
theorem d_LW_law_609 : decode b_LW_law 609 = .ok (.iload 4, 2) := by decide +kernel
theorem d_LW_law_611 : decode b_LW_law 611 = .ok (.iconst 3, 1) := by decide +kernel
theorem d_LW_law_612 : decode b_LW_law 612 = .ok (.iadd, 1) := by decide +kernel
theorem d_LW_law_613 : decode b_LW_law 613 = .ok (.iaload, 1) := by decide +kernel
theorem d_LW_law_614 : decode b_LW_law 614 = .ok (.i2l, 1) := by decide +kernel
theorem d_LW_law_615 : decode b_LW_law 615 = .ok (.ldc2_w 89, 3) := by decide +kernel
theorem d_LW_law_618 : decode b_LW_law 618 = .ok (.land, 1) := by decide +kernel
theorem d_LW_law_619 : decode b_LW_law 619 = .ok (.lor, 1) := by decide +kernel
theorem d_LW_law_620 : decode b_LW_law 620 = .ok (.aload_n 3, 1) := by decide +kernel
theorem d_LW_law_621 : decode b_LW_law 621 = .ok (.invokestatic 99, 3) := by decide +kernel
theorem d_LW_law_624 : decode b_LW_law 624 = .ok (.istore 5, 2) := by decide +kernel
theorem d_LW_law_626 : decode b_LW_law 626 = .ok (.aload_n 2, 1) := by decide +kernel
theorem d_LW_law_627 : decode b_LW_law 627 = .ok (.aload_n 0, 1) := by decide +kernel
theorem d_LW_law_628 : decode b_LW_law 628 = .ok (.iload 4, 2) := by decide +kernel
theorem d_LW_law_630 : decode b_LW_law 630 = .ok (.iconst 1, 1) := by decide +kernel
theorem d_LW_law_631 : decode b_LW_law 631 = .ok (.iadd, 1) := by decide +kernel
theorem d_LW_law_632 : decode b_LW_law 632 = .ok (.iaload, 1) := by decide +kernel
theorem d_LW_law_633 : decode b_LW_law 633 = .ok (.aload_n 0, 1) := by decide +kernel
theorem d_LW_law_634 : decode b_LW_law 634 = .ok (.iload 4, 2) := by decide +kernel
theorem d_LW_law_636 : decode b_LW_law 636 = .ok (.iconst 2, 1) := by decide +kernel
theorem d_LW_law_637 : decode b_LW_law 637 = .ok (.iadd, 1) := by decide +kernel
theorem d_LW_law_638 : decode b_LW_law 638 = .ok (.iaload, 1) := by decide +kernel
theorem d_LW_law_639 : decode b_LW_law 639 = .ok (.i2l, 1) := by decide +kernel
theorem d_LW_law_640 : decode b_LW_law 640 = .ok (.bipush 32, 2) := by decide +kernel
theorem d_LW_law_642 : decode b_LW_law 642 = .ok (.lshl, 1) := by decide +kernel
theorem d_LW_law_643 : decode b_LW_law 643 = .ok (.aload_n 0, 1) := by decide +kernel
theorem d_LW_law_644 : decode b_LW_law 644 = .ok (.iload 4, 2) := by decide +kernel
theorem d_LW_law_646 : decode b_LW_law 646 = .ok (.iconst 3, 1) := by decide +kernel
theorem d_LW_law_647 : decode b_LW_law 647 = .ok (.iadd, 1) := by decide +kernel
theorem d_LW_law_648 : decode b_LW_law 648 = .ok (.iaload, 1) := by decide +kernel
theorem d_LW_law_649 : decode b_LW_law 649 = .ok (.i2l, 1) := by decide +kernel
theorem d_LW_law_650 : decode b_LW_law 650 = .ok (.ldc2_w 89, 3) := by decide +kernel
theorem d_LW_law_653 : decode b_LW_law 653 = .ok (.land, 1) := by decide +kernel
theorem d_LW_law_654 : decode b_LW_law 654 = .ok (.lor, 1) := by decide +kernel
theorem d_LW_law_655 : decode b_LW_law 655 = .ok (.invokevirtual 101, 3) := by decide +kernel
theorem d_LW_law_658 : decode b_LW_law 658 = .ok (.lstore 6, 2) := by decide +kernel
theorem d_LW_law_660 : decode b_LW_law 660 = .ok (.aload_n 2, 1) := by decide +kernel
theorem d_LW_law_661 : decode b_LW_law 661 = .ok (.invokevirtual 73, 3) := by decide +kernel
theorem d_LW_law_664 : decode b_LW_law 664 = .ok (.iload 5, 2) := by decide +kernel
theorem d_LW_law_666 : decode b_LW_law 666 = .ok (.if_icmp .eq 5, 3) := by decide +kernel
theorem d_LW_law_669 : decode b_LW_law 669 = .ok (.iconst 0, 1) := by decide +kernel
theorem d_LW_law_670 : decode b_LW_law 670 = .ok (.ireturn, 1) := by decide +kernel
theorem d_LW_law_671 : decode b_LW_law 671 = .ok (.iload 5, 2) := by decide +kernel
theorem d_LW_law_673 : decode b_LW_law 673 = .ok (.ifCond .ne 14, 3) := by decide +kernel
theorem d_LW_law_676 : decode b_LW_law 676 = .ok (.aload_n 3, 1) := by decide +kernel
theorem d_LW_law_677 : decode b_LW_law 677 = .ok (.iconst 0, 1) := by decide +kernel
theorem d_LW_law_678 : decode b_LW_law 678 = .ok (.laload, 1) := by decide +kernel
theorem d_LW_law_679 : decode b_LW_law 679 = .ok (.lload 6, 2) := by decide +kernel
theorem d_LW_law_681 : decode b_LW_law 681 = .ok (.lcmp, 1) := by decide +kernel
theorem d_LW_law_682 : decode b_LW_law 682 = .ok (.ifCond .eq 5, 3) := by decide +kernel
theorem d_LW_law_685 : decode b_LW_law 685 = .ok (.iconst 0, 1) := by decide +kernel
theorem d_LW_law_686 : decode b_LW_law 686 = .ok (.ireturn, 1) := by decide +kernel
theorem d_LW_law_687 : decode b_LW_law 687 = .ok (.goto 261, 3) := by decide +kernel
theorem d_LW_law_690 : decode b_LW_law 690 = .ok (.aload_n 1, 1) := by decide +kernel
theorem d_LW_law_691 : decode b_LW_law 691 = .ok (.aload_n 0, 1) := by decide +kernel
theorem d_LW_law_692 : decode b_LW_law 692 = .ok (.iload 4, 2) := by decide +kernel
theorem d_LW_law_694 : decode b_LW_law 694 = .ok (.iconst 1, 1) := by decide +kernel
theorem d_LW_law_695 : decode b_LW_law 695 = .ok (.iadd, 1) := by decide +kernel
theorem d_LW_law_696 : decode b_LW_law 696 = .ok (.iaload, 1) := by decide +kernel
theorem d_LW_law_697 : decode b_LW_law 697 = .ok (.aload_n 3, 1) := by decide +kernel
theorem d_LW_law_698 : decode b_LW_law 698 = .ok (.invokestatic 102, 3) := by decide +kernel
theorem d_LW_law_701 : decode b_LW_law 701 = .ok (.istore 5, 2) := by decide +kernel
theorem d_LW_law_703 : decode b_LW_law 703 = .ok (.aload_n 2, 1) := by decide +kernel
theorem d_LW_law_704 : decode b_LW_law 704 = .ok (.aload_n 0, 1) := by decide +kernel
theorem d_LW_law_705 : decode b_LW_law 705 = .ok (.iload 4, 2) := by decide +kernel
theorem d_LW_law_707 : decode b_LW_law 707 = .ok (.iconst 1, 1) := by decide +kernel
theorem d_LW_law_708 : decode b_LW_law 708 = .ok (.iadd, 1) := by decide +kernel
theorem d_LW_law_709 : decode b_LW_law 709 = .ok (.iaload, 1) := by decide +kernel
theorem d_LW_law_710 : decode b_LW_law 710 = .ok (.invokevirtual 104, 3) := by decide +kernel
theorem d_LW_law_713 : decode b_LW_law 713 = .ok (.lstore 6, 2) := by decide +kernel
theorem d_LW_law_715 : decode b_LW_law 715 = .ok (.aload_n 2, 1) := by decide +kernel
theorem d_LW_law_716 : decode b_LW_law 716 = .ok (.invokevirtual 73, 3) := by decide +kernel
theorem d_LW_law_719 : decode b_LW_law 719 = .ok (.iload 5, 2) := by decide +kernel
theorem d_LW_law_721 : decode b_LW_law 721 = .ok (.if_icmp .eq 5, 3) := by decide +kernel
theorem d_LW_law_724 : decode b_LW_law 724 = .ok (.iconst 0, 1) := by decide +kernel
theorem d_LW_law_725 : decode b_LW_law 725 = .ok (.ireturn, 1) := by decide +kernel
theorem d_LW_law_726 : decode b_LW_law 726 = .ok (.iload 5, 2) := by decide +kernel
theorem d_LW_law_728 : decode b_LW_law 728 = .ok (.ifCond .ne 14, 3) := by decide +kernel
theorem d_LW_law_731 : decode b_LW_law 731 = .ok (.aload_n 3, 1) := by decide +kernel
theorem d_LW_law_732 : decode b_LW_law 732 = .ok (.iconst 0, 1) := by decide +kernel
theorem d_LW_law_733 : decode b_LW_law 733 = .ok (.laload, 1) := by decide +kernel
theorem d_LW_law_734 : decode b_LW_law 734 = .ok (.lload 6, 2) := by decide +kernel
theorem d_LW_law_736 : decode b_LW_law 736 = .ok (.lcmp, 1) := by decide +kernel
theorem d_LW_law_737 : decode b_LW_law 737 = .ok (.ifCond .eq 5, 3) := by decide +kernel
theorem d_LW_law_740 : decode b_LW_law 740 = .ok (.iconst 0, 1) := by decide +kernel
theorem d_LW_law_741 : decode b_LW_law 741 = .ok (.ireturn, 1) := by decide +kernel
theorem d_LW_law_742 : decode b_LW_law 742 = .ok (.goto 206, 3) := by decide +kernel
theorem d_LW_law_745 : decode b_LW_law 745 = .ok (.aload_n 1, 1) := by decide +kernel
theorem d_LW_law_746 : decode b_LW_law 746 = .ok (.aload_n 0, 1) := by decide +kernel
theorem d_LW_law_747 : decode b_LW_law 747 = .ok (.iload 4, 2) := by decide +kernel
theorem d_LW_law_749 : decode b_LW_law 749 = .ok (.iconst 1, 1) := by decide +kernel
theorem d_LW_law_750 : decode b_LW_law 750 = .ok (.iadd, 1) := by decide +kernel
theorem d_LW_law_751 : decode b_LW_law 751 = .ok (.iaload, 1) := by decide +kernel
theorem d_LW_law_752 : decode b_LW_law 752 = .ok (.i2l, 1) := by decide +kernel
theorem d_LW_law_753 : decode b_LW_law 753 = .ok (.bipush 32, 2) := by decide +kernel
theorem d_LW_law_755 : decode b_LW_law 755 = .ok (.lshl, 1) := by decide +kernel
theorem d_LW_law_756 : decode b_LW_law 756 = .ok (.aload_n 0, 1) := by decide +kernel
theorem d_LW_law_757 : decode b_LW_law 757 = .ok (.iload 4, 2) := by decide +kernel
theorem d_LW_law_759 : decode b_LW_law 759 = .ok (.iconst 2, 1) := by decide +kernel
theorem d_LW_law_760 : decode b_LW_law 760 = .ok (.iadd, 1) := by decide +kernel
theorem d_LW_law_761 : decode b_LW_law 761 = .ok (.iaload, 1) := by decide +kernel
theorem d_LW_law_762 : decode b_LW_law 762 = .ok (.i2l, 1) := by decide +kernel
theorem d_LW_law_763 : decode b_LW_law 763 = .ok (.ldc2_w 89, 3) := by decide +kernel
theorem d_LW_law_766 : decode b_LW_law 766 = .ok (.land, 1) := by decide +kernel
theorem d_LW_law_767 : decode b_LW_law 767 = .ok (.lor, 1) := by decide +kernel
theorem d_LW_law_768 : decode b_LW_law 768 = .ok (.aload_n 0, 1) := by decide +kernel
theorem d_LW_law_769 : decode b_LW_law 769 = .ok (.iload 4, 2) := by decide +kernel
theorem d_LW_law_771 : decode b_LW_law 771 = .ok (.iconst 3, 1) := by decide +kernel
theorem d_LW_law_772 : decode b_LW_law 772 = .ok (.iadd, 1) := by decide +kernel
theorem d_LW_law_773 : decode b_LW_law 773 = .ok (.iaload, 1) := by decide +kernel
theorem d_LW_law_774 : decode b_LW_law 774 = .ok (.aload_n 0, 1) := by decide +kernel
theorem d_LW_law_775 : decode b_LW_law 775 = .ok (.iload 4, 2) := by decide +kernel
theorem d_LW_law_777 : decode b_LW_law 777 = .ok (.iconst 4, 1) := by decide +kernel
theorem d_LW_law_778 : decode b_LW_law 778 = .ok (.iadd, 1) := by decide +kernel
theorem d_LW_law_779 : decode b_LW_law 779 = .ok (.iaload, 1) := by decide +kernel
theorem d_LW_law_780 : decode b_LW_law 780 = .ok (.aload_n 3, 1) := by decide +kernel
theorem d_LW_law_781 : decode b_LW_law 781 = .ok (.invokestatic 105, 3) := by decide +kernel
theorem d_LW_law_784 : decode b_LW_law 784 = .ok (.istore 5, 2) := by decide +kernel
theorem d_LW_law_786 : decode b_LW_law 786 = .ok (.aload_n 2, 1) := by decide +kernel
theorem d_LW_law_787 : decode b_LW_law 787 = .ok (.aload_n 0, 1) := by decide +kernel
theorem d_LW_law_788 : decode b_LW_law 788 = .ok (.iload 4, 2) := by decide +kernel
theorem d_LW_law_790 : decode b_LW_law 790 = .ok (.iconst 1, 1) := by decide +kernel
theorem d_LW_law_791 : decode b_LW_law 791 = .ok (.iadd, 1) := by decide +kernel
theorem d_LW_law_792 : decode b_LW_law 792 = .ok (.iaload, 1) := by decide +kernel
theorem d_LW_law_793 : decode b_LW_law 793 = .ok (.i2l, 1) := by decide +kernel
theorem d_LW_law_794 : decode b_LW_law 794 = .ok (.bipush 32, 2) := by decide +kernel
theorem d_LW_law_796 : decode b_LW_law 796 = .ok (.lshl, 1) := by decide +kernel
theorem d_LW_law_797 : decode b_LW_law 797 = .ok (.aload_n 0, 1) := by decide +kernel
theorem d_LW_law_798 : decode b_LW_law 798 = .ok (.iload 4, 2) := by decide +kernel
theorem d_LW_law_800 : decode b_LW_law 800 = .ok (.iconst 2, 1) := by decide +kernel
theorem d_LW_law_801 : decode b_LW_law 801 = .ok (.iadd, 1) := by decide +kernel
theorem d_LW_law_802 : decode b_LW_law 802 = .ok (.iaload, 1) := by decide +kernel
theorem d_LW_law_803 : decode b_LW_law 803 = .ok (.i2l, 1) := by decide +kernel
theorem d_LW_law_804 : decode b_LW_law 804 = .ok (.ldc2_w 89, 3) := by decide +kernel
theorem d_LW_law_807 : decode b_LW_law 807 = .ok (.land, 1) := by decide +kernel
theorem d_LW_law_808 : decode b_LW_law 808 = .ok (.lor, 1) := by decide +kernel
theorem d_LW_law_809 : decode b_LW_law 809 = .ok (.aload_n 0, 1) := by decide +kernel
theorem d_LW_law_810 : decode b_LW_law 810 = .ok (.iload 4, 2) := by decide +kernel
theorem d_LW_law_812 : decode b_LW_law 812 = .ok (.iconst 3, 1) := by decide +kernel
theorem d_LW_law_813 : decode b_LW_law 813 = .ok (.iadd, 1) := by decide +kernel
theorem d_LW_law_814 : decode b_LW_law 814 = .ok (.iaload, 1) := by decide +kernel
theorem d_LW_law_815 : decode b_LW_law 815 = .ok (.aload_n 0, 1) := by decide +kernel
theorem d_LW_law_816 : decode b_LW_law 816 = .ok (.iload 4, 2) := by decide +kernel
theorem d_LW_law_818 : decode b_LW_law 818 = .ok (.iconst 4, 1) := by decide +kernel
theorem d_LW_law_819 : decode b_LW_law 819 = .ok (.iadd, 1) := by decide +kernel
theorem d_LW_law_820 : decode b_LW_law 820 = .ok (.iaload, 1) := by decide +kernel
theorem d_LW_law_821 : decode b_LW_law 821 = .ok (.invokevirtual 108, 3) := by decide +kernel
theorem d_LW_law_824 : decode b_LW_law 824 = .ok (.lstore 6, 2) := by decide +kernel
theorem d_LW_law_826 : decode b_LW_law 826 = .ok (.aload_n 2, 1) := by decide +kernel
theorem d_LW_law_827 : decode b_LW_law 827 = .ok (.invokevirtual 73, 3) := by decide +kernel
theorem d_LW_law_830 : decode b_LW_law 830 = .ok (.iload 5, 2) := by decide +kernel
theorem d_LW_law_832 : decode b_LW_law 832 = .ok (.if_icmp .eq 5, 3) := by decide +kernel
theorem d_LW_law_835 : decode b_LW_law 835 = .ok (.iconst 0, 1) := by decide +kernel
theorem d_LW_law_836 : decode b_LW_law 836 = .ok (.ireturn, 1) := by decide +kernel
theorem d_LW_law_837 : decode b_LW_law 837 = .ok (.iload 5, 2) := by decide +kernel
theorem d_LW_law_839 : decode b_LW_law 839 = .ok (.ifCond .ne 14, 3) := by decide +kernel
theorem d_LW_law_842 : decode b_LW_law 842 = .ok (.aload_n 3, 1) := by decide +kernel
theorem d_LW_law_843 : decode b_LW_law 843 = .ok (.iconst 0, 1) := by decide +kernel
theorem d_LW_law_844 : decode b_LW_law 844 = .ok (.laload, 1) := by decide +kernel
theorem d_LW_law_845 : decode b_LW_law 845 = .ok (.lload 6, 2) := by decide +kernel
theorem d_LW_law_847 : decode b_LW_law 847 = .ok (.lcmp, 1) := by decide +kernel
theorem d_LW_law_848 : decode b_LW_law 848 = .ok (.ifCond .eq 5, 3) := by decide +kernel
theorem d_LW_law_851 : decode b_LW_law 851 = .ok (.iconst 0, 1) := by decide +kernel
theorem d_LW_law_852 : decode b_LW_law 852 = .ok (.ireturn, 1) := by decide +kernel
theorem d_LW_law_853 : decode b_LW_law 853 = .ok (.goto 95, 3) := by decide +kernel
theorem d_LW_law_856 : decode b_LW_law 856 = .ok (.aload_n 1, 1) := by decide +kernel
theorem d_LW_law_857 : decode b_LW_law 857 = .ok (.aload_n 0, 1) := by decide +kernel
theorem d_LW_law_858 : decode b_LW_law 858 = .ok (.iload 4, 2) := by decide +kernel
theorem d_LW_law_860 : decode b_LW_law 860 = .ok (.iconst 1, 1) := by decide +kernel
theorem d_LW_law_861 : decode b_LW_law 861 = .ok (.iadd, 1) := by decide +kernel
theorem d_LW_law_862 : decode b_LW_law 862 = .ok (.iaload, 1) := by decide +kernel
theorem d_LW_law_863 : decode b_LW_law 863 = .ok (.aload_n 0, 1) := by decide +kernel
theorem d_LW_law_864 : decode b_LW_law 864 = .ok (.iload 4, 2) := by decide +kernel
theorem d_LW_law_866 : decode b_LW_law 866 = .ok (.iconst 2, 1) := by decide +kernel
theorem d_LW_law_867 : decode b_LW_law 867 = .ok (.iadd, 1) := by decide +kernel
theorem d_LW_law_868 : decode b_LW_law 868 = .ok (.iaload, 1) := by decide +kernel
theorem d_LW_law_869 : decode b_LW_law 869 = .ok (.aload_n 3, 1) := by decide +kernel
theorem d_LW_law_870 : decode b_LW_law 870 = .ok (.invokestatic 109, 3) := by decide +kernel
theorem d_LW_law_873 : decode b_LW_law 873 = .ok (.istore 5, 2) := by decide +kernel
theorem d_LW_law_875 : decode b_LW_law 875 = .ok (.aload_n 2, 1) := by decide +kernel
theorem d_LW_law_876 : decode b_LW_law 876 = .ok (.aload_n 0, 1) := by decide +kernel
theorem d_LW_law_877 : decode b_LW_law 877 = .ok (.iload 4, 2) := by decide +kernel
theorem d_LW_law_879 : decode b_LW_law 879 = .ok (.iconst 1, 1) := by decide +kernel
theorem d_LW_law_880 : decode b_LW_law 880 = .ok (.iadd, 1) := by decide +kernel
theorem d_LW_law_881 : decode b_LW_law 881 = .ok (.iaload, 1) := by decide +kernel
theorem d_LW_law_882 : decode b_LW_law 882 = .ok (.aload_n 0, 1) := by decide +kernel
theorem d_LW_law_883 : decode b_LW_law 883 = .ok (.iload 4, 2) := by decide +kernel
theorem d_LW_law_885 : decode b_LW_law 885 = .ok (.iconst 2, 1) := by decide +kernel
theorem d_LW_law_886 : decode b_LW_law 886 = .ok (.iadd, 1) := by decide +kernel
theorem d_LW_law_887 : decode b_LW_law 887 = .ok (.iaload, 1) := by decide +kernel
theorem d_LW_law_888 : decode b_LW_law 888 = .ok (.invokevirtual 111, 3) := by decide +kernel
theorem d_LW_law_891 : decode b_LW_law 891 = .ok (.lstore 6, 2) := by decide +kernel
theorem d_LW_law_893 : decode b_LW_law 893 = .ok (.aload_n 2, 1) := by decide +kernel
theorem d_LW_law_894 : decode b_LW_law 894 = .ok (.invokevirtual 73, 3) := by decide +kernel
theorem d_LW_law_897 : decode b_LW_law 897 = .ok (.iload 5, 2) := by decide +kernel
theorem d_LW_law_899 : decode b_LW_law 899 = .ok (.if_icmp .eq 5, 3) := by decide +kernel
theorem d_LW_law_902 : decode b_LW_law 902 = .ok (.iconst 0, 1) := by decide +kernel
theorem d_LW_law_903 : decode b_LW_law 903 = .ok (.ireturn, 1) := by decide +kernel
theorem d_LW_law_904 : decode b_LW_law 904 = .ok (.iload 5, 2) := by decide +kernel
theorem d_LW_law_906 : decode b_LW_law 906 = .ok (.ifCond .ne 14, 3) := by decide +kernel
theorem d_LW_law_909 : decode b_LW_law 909 = .ok (.aload_n 3, 1) := by decide +kernel
theorem d_LW_law_910 : decode b_LW_law 910 = .ok (.iconst 0, 1) := by decide +kernel
theorem d_LW_law_911 : decode b_LW_law 911 = .ok (.laload, 1) := by decide +kernel
theorem d_LW_law_912 : decode b_LW_law 912 = .ok (.lload 6, 2) := by decide +kernel
theorem d_LW_law_914 : decode b_LW_law 914 = .ok (.lcmp, 1) := by decide +kernel
theorem d_LW_law_915 : decode b_LW_law 915 = .ok (.ifCond .eq 5, 3) := by decide +kernel
theorem d_LW_law_918 : decode b_LW_law 918 = .ok (.iconst 0, 1) := by decide +kernel
theorem d_LW_law_919 : decode b_LW_law 919 = .ok (.ireturn, 1) := by decide +kernel
theorem d_LW_law_920 : decode b_LW_law 920 = .ok (.goto 28, 3) := by decide +kernel
theorem d_LW_law_923 : decode b_LW_law 923 = .ok (.aload_n 1, 1) := by decide +kernel
theorem d_LW_law_924 : decode b_LW_law 924 = .ok (.aload_n 0, 1) := by decide +kernel
theorem d_LW_law_925 : decode b_LW_law 925 = .ok (.iload 4, 2) := by decide +kernel
theorem d_LW_law_927 : decode b_LW_law 927 = .ok (.iconst 1, 1) := by decide +kernel
theorem d_LW_law_928 : decode b_LW_law 928 = .ok (.iadd, 1) := by decide +kernel
theorem d_LW_law_929 : decode b_LW_law 929 = .ok (.iaload, 1) := by decide +kernel
theorem d_LW_law_930 : decode b_LW_law 930 = .ok (.invokevirtual 112, 3) := by decide +kernel
theorem d_LW_law_933 : decode b_LW_law 933 = .ok (.aload_n 2, 1) := by decide +kernel
theorem d_LW_law_934 : decode b_LW_law 934 = .ok (.aload_n 0, 1) := by decide +kernel
theorem d_LW_law_935 : decode b_LW_law 935 = .ok (.iload 4, 2) := by decide +kernel
theorem d_LW_law_937 : decode b_LW_law 937 = .ok (.iconst 1, 1) := by decide +kernel
theorem d_LW_law_938 : decode b_LW_law 938 = .ok (.iadd, 1) := by decide +kernel
theorem d_LW_law_939 : decode b_LW_law 939 = .ok (.iaload, 1) := by decide +kernel
theorem d_LW_law_940 : decode b_LW_law 940 = .ok (.invokevirtual 115, 3) := by decide +kernel
theorem d_LW_law_943 : decode b_LW_law 943 = .ok (.if_icmp .eq 5, 3) := by decide +kernel
theorem d_LW_law_946 : decode b_LW_law 946 = .ok (.iconst 0, 1) := by decide +kernel
theorem d_LW_law_947 : decode b_LW_law 947 = .ok (.ireturn, 1) := by decide +kernel
theorem d_LW_law_948 : decode b_LW_law 948 = .ok (.iinc 4 5, 3) := by decide +kernel
theorem d_LW_law_951 : decode b_LW_law 951 = .ok (.goto (-928), 3) := by decide +kernel
theorem d_LW_law_954 : decode b_LW_law 954 = .ok (.iconst 1, 1) := by decide +kernel
theorem d_LW_law_955 : decode b_LW_law 955 = .ok (.ireturn, 1) := by decide +kernel
