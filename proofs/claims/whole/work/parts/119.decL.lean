theorem d_L_field_0 : decode b_L_field 0 = .ok (.aload_n 0, 1) := by decide +kernel
theorem d_L_field_1 : decode b_L_field 1 = .ok (.iload_n 1, 1) := by decide +kernel
theorem d_L_field_2 : decode b_L_field 2 = .ok (.iload_n 2, 1) := by decide +kernel
theorem d_L_field_3 : decode b_L_field 3 = .ok (.iload_n 3, 1) := by decide +kernel
theorem d_L_field_4 : decode b_L_field 4 = .ok (.iload 4, 2) := by decide +kernel
theorem d_L_field_6 : decode b_L_field 6 = .ok (.invokevirtual 7, 3) := by decide +kernel
theorem d_L_field_9 : decode b_L_field 9 = .ok (.goto 11, 3) := by decide +kernel
theorem d_L_field_12 : decode b_L_field 12 = .ok (.astore 5, 2) := by decide +kernel
theorem d_L_field_14 : decode b_L_field 14 = .ok (.iconst 1, 1) := by decide +kernel
theorem d_L_field_15 : decode b_L_field 15 = .ok (.ireturn, 1) := by decide +kernel
theorem d_L_field_16 : decode b_L_field 16 = .ok (.astore 5, 2) := by decide +kernel
theorem d_L_field_18 : decode b_L_field 18 = .ok (.iconst 2, 1) := by decide +kernel
theorem d_L_field_19 : decode b_L_field 19 = .ok (.ireturn, 1) := by decide +kernel
theorem d_L_field_20 : decode b_L_field 20 = .ok (.iconst 0, 1) := by decide +kernel
theorem d_L_field_21 : decode b_L_field 21 = .ok (.ireturn, 1) := by decide +kernel
theorem d_L_insert_0 : decode b_L_insert 0 = .ok (.aload_n 1, 1) := by decide +kernel
theorem d_L_insert_1 : decode b_L_insert 1 = .ok (.iconst 0, 1) := by decide +kernel
theorem d_L_insert_2 : decode b_L_insert 2 = .ok (.aload_n 0, 1) := by decide +kernel
theorem d_L_insert_3 : decode b_L_insert 3 = .ok (.invokevirtual 17, 3) := by decide +kernel
theorem d_L_insert_6 : decode b_L_insert 6 = .ok (.i2l, 1) := by decide +kernel
theorem d_L_insert_7 : decode b_L_insert 7 = .ok (.lastore, 1) := by decide +kernel
theorem d_L_insert_8 : decode b_L_insert 8 = .ok (.goto 6, 3) := by decide +kernel
theorem d_L_insert_11 : decode b_L_insert 11 = .ok (.astore_n 2, 1) := by decide +kernel
theorem d_L_insert_12 : decode b_L_insert 12 = .ok (.iconst 1, 1) := by decide +kernel
theorem d_L_insert_13 : decode b_L_insert 13 = .ok (.ireturn, 1) := by decide +kernel
theorem d_L_insert_14 : decode b_L_insert 14 = .ok (.iconst 0, 1) := by decide +kernel
theorem d_L_insert_15 : decode b_L_insert 15 = .ok (.ireturn, 1) := by decide +kernel
theorem d_L_remove_0 : decode b_L_remove 0 = .ok (.aload_n 0, 1) := by decide +kernel
theorem d_L_remove_1 : decode b_L_remove 1 = .ok (.iload_n 1, 1) := by decide +kernel
theorem d_L_remove_2 : decode b_L_remove 2 = .ok (.invokevirtual 23, 3) := by decide +kernel
theorem d_L_remove_5 : decode b_L_remove 5 = .ok (.goto 9, 3) := by decide +kernel
theorem d_L_remove_8 : decode b_L_remove 8 = .ok (.astore_n 2, 1) := by decide +kernel
theorem d_L_remove_9 : decode b_L_remove 9 = .ok (.iconst 1, 1) := by decide +kernel
theorem d_L_remove_10 : decode b_L_remove 10 = .ok (.ireturn, 1) := by decide +kernel
theorem d_L_remove_11 : decode b_L_remove 11 = .ok (.astore_n 2, 1) := by decide +kernel
theorem d_L_remove_12 : decode b_L_remove 12 = .ok (.iconst 2, 1) := by decide +kernel
theorem d_L_remove_13 : decode b_L_remove 13 = .ok (.ireturn, 1) := by decide +kernel
theorem d_L_remove_14 : decode b_L_remove 14 = .ok (.iconst 0, 1) := by decide +kernel
theorem d_L_remove_15 : decode b_L_remove 15 = .ok (.ireturn, 1) := by decide +kernel
theorem d_L_put_0 : decode b_L_put 0 = .ok (.aload_n 0, 1) := by decide +kernel
theorem d_L_put_1 : decode b_L_put 1 = .ok (.iload_n 1, 1) := by decide +kernel
theorem d_L_put_2 : decode b_L_put 2 = .ok (.iload_n 2, 1) := by decide +kernel
theorem d_L_put_3 : decode b_L_put 3 = .ok (.iload_n 3, 1) := by decide +kernel
theorem d_L_put_4 : decode b_L_put 4 = .ok (.invokevirtual 27, 3) := by decide +kernel
theorem d_L_put_7 : decode b_L_put 7 = .ok (.goto 15, 3) := by decide +kernel
theorem d_L_put_10 : decode b_L_put 10 = .ok (.astore 4, 2) := by decide +kernel
theorem d_L_put_12 : decode b_L_put 12 = .ok (.iconst 1, 1) := by decide +kernel
theorem d_L_put_13 : decode b_L_put 13 = .ok (.ireturn, 1) := by decide +kernel
theorem d_L_put_14 : decode b_L_put 14 = .ok (.astore 4, 2) := by decide +kernel
theorem d_L_put_16 : decode b_L_put 16 = .ok (.iconst 2, 1) := by decide +kernel
theorem d_L_put_17 : decode b_L_put 17 = .ok (.ireturn, 1) := by decide +kernel
theorem d_L_put_18 : decode b_L_put 18 = .ok (.astore 4, 2) := by decide +kernel
theorem d_L_put_20 : decode b_L_put 20 = .ok (.iconst 3, 1) := by decide +kernel
theorem d_L_put_21 : decode b_L_put 21 = .ok (.ireturn, 1) := by decide +kernel
theorem d_L_put_22 : decode b_L_put 22 = .ok (.iconst 0, 1) := by decide +kernel
theorem d_L_put_23 : decode b_L_put 23 = .ok (.ireturn, 1) := by decide +kernel
theorem d_L_get_0 : decode b_L_get 0 = .ok (.aload_n 3, 1) := by decide +kernel
theorem d_L_get_1 : decode b_L_get 1 = .ok (.iconst 0, 1) := by decide +kernel
theorem d_L_get_2 : decode b_L_get 2 = .ok (.aload_n 0, 1) := by decide +kernel
theorem d_L_get_3 : decode b_L_get 3 = .ok (.iload_n 1, 1) := by decide +kernel
theorem d_L_get_4 : decode b_L_get 4 = .ok (.iload_n 2, 1) := by decide +kernel
theorem d_L_get_5 : decode b_L_get 5 = .ok (.invokevirtual 31, 3) := by decide +kernel
theorem d_L_get_8 : decode b_L_get 8 = .ok (.i2l, 1) := by decide +kernel
theorem d_L_get_9 : decode b_L_get 9 = .ok (.lastore, 1) := by decide +kernel
theorem d_L_get_10 : decode b_L_get 10 = .ok (.goto 11, 3) := by decide +kernel
theorem d_L_get_13 : decode b_L_get 13 = .ok (.astore 4, 2) := by decide +kernel
theorem d_L_get_15 : decode b_L_get 15 = .ok (.iconst 1, 1) := by decide +kernel
theorem d_L_get_16 : decode b_L_get 16 = .ok (.ireturn, 1) := by decide +kernel
theorem d_L_get_17 : decode b_L_get 17 = .ok (.astore 4, 2) := by decide +kernel
theorem d_L_get_19 : decode b_L_get 19 = .ok (.iconst 2, 1) := by decide +kernel
theorem d_L_get_20 : decode b_L_get 20 = .ok (.ireturn, 1) := by decide +kernel
theorem d_L_get_21 : decode b_L_get 21 = .ok (.iconst 0, 1) := by decide +kernel
theorem d_L_get_22 : decode b_L_get 22 = .ok (.ireturn, 1) := by decide +kernel
theorem d_L_bit_0 : decode b_L_bit 0 = .ok (.aload_n 3, 1) := by decide +kernel
theorem d_L_bit_1 : decode b_L_bit 1 = .ok (.iconst 0, 1) := by decide +kernel
theorem d_L_bit_2 : decode b_L_bit 2 = .ok (.aload_n 0, 1) := by decide +kernel
theorem d_L_bit_3 : decode b_L_bit 3 = .ok (.iload_n 1, 1) := by decide +kernel
theorem d_L_bit_4 : decode b_L_bit 4 = .ok (.iload_n 2, 1) := by decide +kernel
theorem d_L_bit_5 : decode b_L_bit 5 = .ok (.invokevirtual 35, 3) := by decide +kernel
theorem d_L_bit_8 : decode b_L_bit 8 = .ok (.ifCond .eq 7, 3) := by decide +kernel
theorem d_L_bit_11 : decode b_L_bit 11 = .ok (.lconst 1, 1) := by decide +kernel
theorem d_L_bit_12 : decode b_L_bit 12 = .ok (.goto 4, 3) := by decide +kernel
theorem d_L_bit_15 : decode b_L_bit 15 = .ok (.lconst 0, 1) := by decide +kernel
theorem d_L_bit_16 : decode b_L_bit 16 = .ok (.lastore, 1) := by decide +kernel
theorem d_L_bit_17 : decode b_L_bit 17 = .ok (.goto 7, 3) := by decide +kernel
theorem d_L_bit_20 : decode b_L_bit 20 = .ok (.astore 4, 2) := by decide +kernel
theorem d_L_bit_22 : decode b_L_bit 22 = .ok (.iconst 1, 1) := by decide +kernel
theorem d_L_bit_23 : decode b_L_bit 23 = .ok (.ireturn, 1) := by decide +kernel
theorem d_L_bit_24 : decode b_L_bit 24 = .ok (.iconst 0, 1) := by decide +kernel
theorem d_L_bit_25 : decode b_L_bit 25 = .ok (.ireturn, 1) := by decide +kernel
theorem d_L_multi_0 : decode b_L_multi 0 = .ok (.aload_n 0, 1) := by decide +kernel
theorem d_L_multi_1 : decode b_L_multi 1 = .ok (.iload_n 1, 1) := by decide +kernel
theorem d_L_multi_2 : decode b_L_multi 2 = .ok (.iload_n 2, 1) := by decide +kernel
theorem d_L_multi_3 : decode b_L_multi 3 = .ok (.invokevirtual 39, 3) := by decide +kernel
theorem d_L_multi_6 : decode b_L_multi 6 = .ok (.goto 6, 3) := by decide +kernel
theorem d_L_multi_9 : decode b_L_multi 9 = .ok (.astore_n 3, 1) := by decide +kernel
theorem d_L_multi_10 : decode b_L_multi 10 = .ok (.iconst 1, 1) := by decide +kernel
theorem d_L_multi_11 : decode b_L_multi 11 = .ok (.ireturn, 1) := by decide +kernel
theorem d_L_multi_12 : decode b_L_multi 12 = .ok (.iconst 0, 1) := by decide +kernel
theorem d_L_multi_13 : decode b_L_multi 13 = .ok (.ireturn, 1) := by decide +kernel
theorem d_L_responds_0 : decode b_L_responds 0 = .ok (.aload_n 2, 1) := by decide +kernel
theorem d_L_responds_1 : decode b_L_responds 1 = .ok (.iconst 0, 1) := by decide +kernel
theorem d_L_responds_2 : decode b_L_responds 2 = .ok (.aload_n 0, 1) := by decide +kernel
theorem d_L_responds_3 : decode b_L_responds 3 = .ok (.iload_n 1, 1) := by decide +kernel
theorem d_L_responds_4 : decode b_L_responds 4 = .ok (.invokevirtual 43, 3) := by decide +kernel
theorem d_L_responds_7 : decode b_L_responds 7 = .ok (.ifCond .eq 7, 3) := by decide +kernel
theorem d_L_responds_10 : decode b_L_responds 10 = .ok (.lconst 1, 1) := by decide +kernel
theorem d_L_responds_11 : decode b_L_responds 11 = .ok (.goto 4, 3) := by decide +kernel
theorem d_L_responds_14 : decode b_L_responds 14 = .ok (.lconst 0, 1) := by decide +kernel
theorem d_L_responds_15 : decode b_L_responds 15 = .ok (.lastore, 1) := by decide +kernel
theorem d_L_responds_16 : decode b_L_responds 16 = .ok (.goto 6, 3) := by decide +kernel
theorem d_L_responds_19 : decode b_L_responds 19 = .ok (.astore_n 3, 1) := by decide +kernel
theorem d_L_responds_20 : decode b_L_responds 20 = .ok (.iconst 1, 1) := by decide +kernel
theorem d_L_responds_21 : decode b_L_responds 21 = .ok (.ireturn, 1) := by decide +kernel
theorem d_L_responds_22 : decode b_L_responds 22 = .ok (.iconst 0, 1) := by decide +kernel
theorem d_L_responds_23 : decode b_L_responds 23 = .ok (.ireturn, 1) := by decide +kernel
theorem d_L_run_0 : decode b_L_run 0 = .ok (.aload_n 1, 1) := by decide +kernel
theorem d_L_run_1 : decode b_L_run 1 = .ok (.iconst 0, 1) := by decide +kernel
theorem d_L_run_2 : decode b_L_run 2 = .ok (.aload_n 0, 1) := by decide +kernel
theorem d_L_run_3 : decode b_L_run 3 = .ok (.invokevirtual 47, 3) := by decide +kernel
theorem d_L_run_6 : decode b_L_run 6 = .ok (.i2l, 1) := by decide +kernel
theorem d_L_run_7 : decode b_L_run 7 = .ok (.lastore, 1) := by decide +kernel
theorem d_L_run_8 : decode b_L_run 8 = .ok (.goto 9, 3) := by decide +kernel
theorem d_L_run_11 : decode b_L_run 11 = .ok (.astore_n 2, 1) := by decide +kernel
theorem d_L_run_12 : decode b_L_run 12 = .ok (.iconst 1, 1) := by decide +kernel
theorem d_L_run_13 : decode b_L_run 13 = .ok (.ireturn, 1) := by decide +kernel
theorem d_L_run_14 : decode b_L_run 14 = .ok (.astore_n 2, 1) := by decide +kernel
theorem d_L_run_15 : decode b_L_run 15 = .ok (.iconst 2, 1) := by decide +kernel
theorem d_L_run_16 : decode b_L_run 16 = .ok (.ireturn, 1) := by decide +kernel
theorem d_L_run_17 : decode b_L_run 17 = .ok (.iconst 0, 1) := by decide +kernel
theorem d_L_run_18 : decode b_L_run 18 = .ok (.ireturn, 1) := by decide +kernel
theorem d_L_listed_0 : decode b_L_listed 0 = .ok (.aload_n 2, 1) := by decide +kernel
theorem d_L_listed_1 : decode b_L_listed 1 = .ok (.iconst 0, 1) := by decide +kernel
theorem d_L_listed_2 : decode b_L_listed 2 = .ok (.aload_n 0, 1) := by decide +kernel
theorem d_L_listed_3 : decode b_L_listed 3 = .ok (.iload_n 1, 1) := by decide +kernel
theorem d_L_listed_4 : decode b_L_listed 4 = .ok (.invokevirtual 50, 3) := by decide +kernel
theorem d_L_listed_7 : decode b_L_listed 7 = .ok (.i2l, 1) := by decide +kernel
theorem d_L_listed_8 : decode b_L_listed 8 = .ok (.lastore, 1) := by decide +kernel
theorem d_L_listed_9 : decode b_L_listed 9 = .ok (.goto 6, 3) := by decide +kernel
theorem d_L_listed_12 : decode b_L_listed 12 = .ok (.astore_n 3, 1) := by decide +kernel
theorem d_L_listed_13 : decode b_L_listed 13 = .ok (.iconst 1, 1) := by decide +kernel
theorem d_L_listed_14 : decode b_L_listed 14 = .ok (.ireturn, 1) := by decide +kernel
theorem d_L_listed_15 : decode b_L_listed 15 = .ok (.iconst 0, 1) := by decide +kernel
theorem d_L_listed_16 : decode b_L_listed 16 = .ok (.ireturn, 1) := by decide +kernel
theorem d_L_law_0 : decode b_L_law 0 = .ok (.new 8, 3) := by decide +kernel
theorem d_L_law_3 : decode b_L_law 3 = .ok (.dup, 1) := by decide +kernel
theorem d_L_law_4 : decode b_L_law 4 = .ok (.invokespecial 56, 3) := by decide +kernel
theorem d_L_law_7 : decode b_L_law 7 = .ok (.astore_n 1, 1) := by decide +kernel
theorem d_L_law_8 : decode b_L_law 8 = .ok (.new 57, 3) := by decide +kernel
theorem d_L_law_11 : decode b_L_law 11 = .ok (.dup, 1) := by decide +kernel
theorem d_L_law_12 : decode b_L_law 12 = .ok (.invokespecial 59, 3) := by decide +kernel
theorem d_L_law_15 : decode b_L_law 15 = .ok (.astore_n 2, 1) := by decide +kernel
theorem d_L_law_16 : decode b_L_law 16 = .ok (.iconst 1, 1) := by decide +kernel
theorem d_L_law_17 : decode b_L_law 17 = .ok (.newarray .long, 2) := by decide +kernel
theorem d_L_law_19 : decode b_L_law 19 = .ok (.astore_n 3, 1) := by decide +kernel
theorem d_L_law_20 : decode b_L_law 20 = .ok (.iconst 0, 1) := by decide +kernel
theorem d_L_law_21 : decode b_L_law 21 = .ok (.istore 4, 2) := by decide +kernel
theorem d_L_law_23 : decode b_L_law 23 = .ok (.iload 4, 2) := by decide +kernel
theorem d_L_law_25 : decode b_L_law 25 = .ok (.aload_n 0, 1) := by decide +kernel
theorem d_L_law_26 : decode b_L_law 26 = .ok (.arraylength, 1) := by decide +kernel
theorem d_L_law_27 : decode b_L_law 27 = .ok (.iconst 5, 1) := by decide +kernel
theorem d_L_law_28 : decode b_L_law 28 = .ok (.isub, 1) := by decide +kernel
theorem d_L_law_29 : decode b_L_law 29 = .ok (.if_icmp .gt 855, 3) := by decide +kernel
theorem d_L_law_32 : decode b_L_law 32 = .ok (.aload_n 0, 1) := by decide +kernel
theorem d_L_law_33 : decode b_L_law 33 = .ok (.iload 4, 2) := by decide +kernel
theorem d_L_law_35 : decode b_L_law 35 = .ok (.iaload, 1) := by decide +kernel
theorem d_L_law_36 : decode b_L_law 36 = .ok (.bipush 15, 2) := by decide +kernel
theorem d_L_law_38 : decode b_L_law 38 = .ok (.iand, 1) := by decide +kernel
theorem d_L_law_39 : decode b_L_law 39 = .ok (.tableswitch 839 0 15 #[77, 167, 211, 247, 309, 379, 454, 519, 567, 630, 643, 700, 713, 757, 770, 783], 77) := by decide +kernel
theorem d_L_law_116 : decode b_L_law 116 = .ok (.aload_n 1, 1) := by decide +kernel
theorem d_L_law_117 : decode b_L_law 117 = .ok (.aload_n 0, 1) := by decide +kernel
theorem d_L_law_118 : decode b_L_law 118 = .ok (.iload 4, 2) := by decide +kernel
theorem d_L_law_120 : decode b_L_law 120 = .ok (.iconst 1, 1) := by decide +kernel
theorem d_L_law_121 : decode b_L_law 121 = .ok (.iadd, 1) := by decide +kernel
theorem d_L_law_122 : decode b_L_law 122 = .ok (.iaload, 1) := by decide +kernel
theorem d_L_law_123 : decode b_L_law 123 = .ok (.i2c, 1) := by decide +kernel
theorem d_L_law_124 : decode b_L_law 124 = .ok (.aload_n 0, 1) := by decide +kernel
theorem d_L_law_125 : decode b_L_law 125 = .ok (.iload 4, 2) := by decide +kernel
theorem d_L_law_127 : decode b_L_law 127 = .ok (.iconst 2, 1) := by decide +kernel
theorem d_L_law_128 : decode b_L_law 128 = .ok (.iadd, 1) := by decide +kernel
theorem d_L_law_129 : decode b_L_law 129 = .ok (.iaload, 1) := by decide +kernel
theorem d_L_law_130 : decode b_L_law 130 = .ok (.aload_n 0, 1) := by decide +kernel
theorem d_L_law_131 : decode b_L_law 131 = .ok (.iload 4, 2) := by decide +kernel
theorem d_L_law_133 : decode b_L_law 133 = .ok (.iconst 3, 1) := by decide +kernel
theorem d_L_law_134 : decode b_L_law 134 = .ok (.iadd, 1) := by decide +kernel
theorem d_L_law_135 : decode b_L_law 135 = .ok (.iaload, 1) := by decide +kernel
theorem d_L_law_136 : decode b_L_law 136 = .ok (.aload_n 0, 1) := by decide +kernel
theorem d_L_law_137 : decode b_L_law 137 = .ok (.iload 4, 2) := by decide +kernel
theorem d_L_law_139 : decode b_L_law 139 = .ok (.iconst 4, 1) := by decide +kernel
theorem d_L_law_140 : decode b_L_law 140 = .ok (.iadd, 1) := by decide +kernel
theorem d_L_law_141 : decode b_L_law 141 = .ok (.iaload, 1) := by decide +kernel
theorem d_L_law_142 : decode b_L_law 142 = .ok (.ifCond .eq 7, 3) := by decide +kernel
theorem d_L_law_145 : decode b_L_law 145 = .ok (.iconst 1, 1) := by decide +kernel
theorem d_L_law_146 : decode b_L_law 146 = .ok (.goto 4, 3) := by decide +kernel
theorem d_L_law_149 : decode b_L_law 149 = .ok (.iconst 0, 1) := by decide +kernel
theorem d_L_law_150 : decode b_L_law 150 = .ok (.invokestatic 60, 3) := by decide +kernel
theorem d_L_law_153 : decode b_L_law 153 = .ok (.istore 5, 2) := by decide +kernel
theorem d_L_law_155 : decode b_L_law 155 = .ok (.aload_n 2, 1) := by decide +kernel
theorem d_L_law_156 : decode b_L_law 156 = .ok (.aload_n 0, 1) := by decide +kernel
theorem d_L_law_157 : decode b_L_law 157 = .ok (.iload 4, 2) := by decide +kernel
theorem d_L_law_159 : decode b_L_law 159 = .ok (.iconst 1, 1) := by decide +kernel
theorem d_L_law_160 : decode b_L_law 160 = .ok (.iadd, 1) := by decide +kernel
theorem d_L_law_161 : decode b_L_law 161 = .ok (.iaload, 1) := by decide +kernel
theorem d_L_law_162 : decode b_L_law 162 = .ok (.i2c, 1) := by decide +kernel
theorem d_L_law_163 : decode b_L_law 163 = .ok (.aload_n 0, 1) := by decide +kernel
theorem d_L_law_164 : decode b_L_law 164 = .ok (.iload 4, 2) := by decide +kernel
theorem d_L_law_166 : decode b_L_law 166 = .ok (.iconst 2, 1) := by decide +kernel
theorem d_L_law_167 : decode b_L_law 167 = .ok (.iadd, 1) := by decide +kernel
theorem d_L_law_168 : decode b_L_law 168 = .ok (.iaload, 1) := by decide +kernel
theorem d_L_law_169 : decode b_L_law 169 = .ok (.aload_n 0, 1) := by decide +kernel
theorem d_L_law_170 : decode b_L_law 170 = .ok (.iload 4, 2) := by decide +kernel
theorem d_L_law_172 : decode b_L_law 172 = .ok (.iconst 3, 1) := by decide +kernel
theorem d_L_law_173 : decode b_L_law 173 = .ok (.iadd, 1) := by decide +kernel
theorem d_L_law_174 : decode b_L_law 174 = .ok (.iaload, 1) := by decide +kernel
theorem d_L_law_175 : decode b_L_law 175 = .ok (.aload_n 0, 1) := by decide +kernel
theorem d_L_law_176 : decode b_L_law 176 = .ok (.iload 4, 2) := by decide +kernel
theorem d_L_law_178 : decode b_L_law 178 = .ok (.iconst 4, 1) := by decide +kernel
theorem d_L_law_179 : decode b_L_law 179 = .ok (.iadd, 1) := by decide +kernel
theorem d_L_law_180 : decode b_L_law 180 = .ok (.iaload, 1) := by decide +kernel
theorem d_L_law_181 : decode b_L_law 181 = .ok (.ifCond .eq 7, 3) := by decide +kernel
theorem d_L_law_184 : decode b_L_law 184 = .ok (.iconst 1, 1) := by decide +kernel
theorem d_L_law_185 : decode b_L_law 185 = .ok (.goto 4, 3) := by decide +kernel
theorem d_L_law_188 : decode b_L_law 188 = .ok (.iconst 0, 1) := by decide +kernel
theorem d_L_law_189 : decode b_L_law 189 = .ok (.invokevirtual 65, 3) := by decide +kernel
theorem d_L_law_192 : decode b_L_law 192 = .ok (.aload_n 2, 1) := by decide +kernel
theorem d_L_law_193 : decode b_L_law 193 = .ok (.invokevirtual 66, 3) := by decide +kernel
theorem d_L_law_196 : decode b_L_law 196 = .ok (.iload 5, 2) := by decide +kernel
theorem d_L_law_198 : decode b_L_law 198 = .ok (.if_icmp .eq 5, 3) := by decide +kernel
theorem d_L_law_201 : decode b_L_law 201 = .ok (.iconst 0, 1) := by decide +kernel
theorem d_L_law_202 : decode b_L_law 202 = .ok (.ireturn, 1) := by decide +kernel
theorem d_L_law_203 : decode b_L_law 203 = .ok (.goto 675, 3) := by decide +kernel
theorem d_L_law_206 : decode b_L_law 206 = .ok (.aload_n 1, 1) := by decide +kernel
theorem d_L_law_207 : decode b_L_law 207 = .ok (.aload_n 3, 1) := by decide +kernel
theorem d_L_law_208 : decode b_L_law 208 = .ok (.invokestatic 69, 3) := by decide +kernel
theorem d_L_law_211 : decode b_L_law 211 = .ok (.istore 5, 2) := by decide +kernel
theorem d_L_law_213 : decode b_L_law 213 = .ok (.aload_n 2, 1) := by decide +kernel
theorem d_L_law_214 : decode b_L_law 214 = .ok (.invokevirtual 72, 3) := by decide +kernel
theorem d_L_law_217 : decode b_L_law 217 = .ok (.istore 6, 2) := by decide +kernel
theorem d_L_law_219 : decode b_L_law 219 = .ok (.aload_n 2, 1) := by decide +kernel
theorem d_L_law_220 : decode b_L_law 220 = .ok (.invokevirtual 66, 3) := by decide +kernel
theorem d_L_law_223 : decode b_L_law 223 = .ok (.iload 5, 2) := by decide +kernel
theorem d_L_law_225 : decode b_L_law 225 = .ok (.if_icmp .eq 5, 3) := by decide +kernel
theorem d_L_law_228 : decode b_L_law 228 = .ok (.iconst 0, 1) := by decide +kernel
theorem d_L_law_229 : decode b_L_law 229 = .ok (.ireturn, 1) := by decide +kernel
theorem d_L_law_230 : decode b_L_law 230 = .ok (.iload 5, 2) := by decide +kernel
theorem d_L_law_232 : decode b_L_law 232 = .ok (.ifCond .ne 15, 3) := by decide +kernel
theorem d_L_law_235 : decode b_L_law 235 = .ok (.aload_n 3, 1) := by decide +kernel
theorem d_L_law_236 : decode b_L_law 236 = .ok (.iconst 0, 1) := by decide +kernel
theorem d_L_law_237 : decode b_L_law 237 = .ok (.laload, 1) := by decide +kernel
theorem d_L_law_238 : decode b_L_law 238 = .ok (.iload 6, 2) := by decide +kernel
theorem d_L_law_240 : decode b_L_law 240 = .ok (.i2l, 1) := by decide +kernel
theorem d_L_law_241 : decode b_L_law 241 = .ok (.lcmp, 1) := by decide +kernel
theorem d_L_law_242 : decode b_L_law 242 = .ok (.ifCond .eq 5, 3) := by decide +kernel
theorem d_L_law_245 : decode b_L_law 245 = .ok (.iconst 0, 1) := by decide +kernel
theorem d_L_law_246 : decode b_L_law 246 = .ok (.ireturn, 1) := by decide +kernel
theorem d_L_law_247 : decode b_L_law 247 = .ok (.goto 631, 3) := by decide +kernel
theorem d_L_law_250 : decode b_L_law 250 = .ok (.aload_n 1, 1) := by decide +kernel
theorem d_L_law_251 : decode b_L_law 251 = .ok (.aload_n 0, 1) := by decide +kernel
theorem d_L_law_252 : decode b_L_law 252 = .ok (.iload 4, 2) := by decide +kernel
theorem d_L_law_254 : decode b_L_law 254 = .ok (.iconst 1, 1) := by decide +kernel
theorem d_L_law_255 : decode b_L_law 255 = .ok (.iadd, 1) := by decide +kernel
theorem d_L_law_256 : decode b_L_law 256 = .ok (.iaload, 1) := by decide +kernel
theorem d_L_law_257 : decode b_L_law 257 = .ok (.invokestatic 73, 3) := by decide +kernel
theorem d_L_law_260 : decode b_L_law 260 = .ok (.istore 5, 2) := by decide +kernel
theorem d_L_law_262 : decode b_L_law 262 = .ok (.aload_n 2, 1) := by decide +kernel
theorem d_L_law_263 : decode b_L_law 263 = .ok (.aload_n 0, 1) := by decide +kernel
theorem d_L_law_264 : decode b_L_law 264 = .ok (.iload 4, 2) := by decide +kernel
theorem d_L_law_266 : decode b_L_law 266 = .ok (.iconst 1, 1) := by decide +kernel
theorem d_L_law_267 : decode b_L_law 267 = .ok (.iadd, 1) := by decide +kernel
theorem d_L_law_268 : decode b_L_law 268 = .ok (.iaload, 1) := by decide +kernel
theorem d_L_law_269 : decode b_L_law 269 = .ok (.invokevirtual 76, 3) := by decide +kernel
theorem d_L_law_272 : decode b_L_law 272 = .ok (.aload_n 2, 1) := by decide +kernel
theorem d_L_law_273 : decode b_L_law 273 = .ok (.invokevirtual 66, 3) := by decide +kernel
theorem d_L_law_276 : decode b_L_law 276 = .ok (.iload 5, 2) := by decide +kernel
theorem d_L_law_278 : decode b_L_law 278 = .ok (.if_icmp .eq 5, 3) := by decide +kernel
theorem d_L_law_281 : decode b_L_law 281 = .ok (.iconst 0, 1) := by decide +kernel
theorem d_L_law_282 : decode b_L_law 282 = .ok (.ireturn, 1) := by decide +kernel
theorem d_L_law_283 : decode b_L_law 283 = .ok (.goto 595, 3) := by decide +kernel
theorem d_L_law_286 : decode b_L_law 286 = .ok (.aload_n 1, 1) := by decide +kernel
theorem d_L_law_287 : decode b_L_law 287 = .ok (.aload_n 0, 1) := by decide +kernel
theorem d_L_law_288 : decode b_L_law 288 = .ok (.iload 4, 2) := by decide +kernel
theorem d_L_law_290 : decode b_L_law 290 = .ok (.iconst 1, 1) := by decide +kernel
theorem d_L_law_291 : decode b_L_law 291 = .ok (.iadd, 1) := by decide +kernel
theorem d_L_law_292 : decode b_L_law 292 = .ok (.iaload, 1) := by decide +kernel
theorem d_L_law_293 : decode b_L_law 293 = .ok (.aload_n 0, 1) := by decide +kernel
theorem d_L_law_294 : decode b_L_law 294 = .ok (.iload 4, 2) := by decide +kernel
theorem d_L_law_296 : decode b_L_law 296 = .ok (.iconst 2, 1) := by decide +kernel
theorem d_L_law_297 : decode b_L_law 297 = .ok (.iadd, 1) := by decide +kernel
theorem d_L_law_298 : decode b_L_law 298 = .ok (.iaload, 1) := by decide +kernel
theorem d_L_law_299 : decode b_L_law 299 = .ok (.i2c, 1) := by decide +kernel
theorem d_L_law_300 : decode b_L_law 300 = .ok (.aload_n 0, 1) := by decide +kernel
theorem d_L_law_301 : decode b_L_law 301 = .ok (.iload 4, 2) := by decide +kernel
theorem d_L_law_303 : decode b_L_law 303 = .ok (.iconst 3, 1) := by decide +kernel
theorem d_L_law_304 : decode b_L_law 304 = .ok (.iadd, 1) := by decide +kernel
theorem d_L_law_305 : decode b_L_law 305 = .ok (.iaload, 1) := by decide +kernel
theorem d_L_law_306 : decode b_L_law 306 = .ok (.invokestatic 77, 3) := by decide +kernel
theorem d_L_law_309 : decode b_L_law 309 = .ok (.istore 5, 2) := by decide +kernel
theorem d_L_law_311 : decode b_L_law 311 = .ok (.aload_n 2, 1) := by decide +kernel
theorem d_L_law_312 : decode b_L_law 312 = .ok (.aload_n 0, 1) := by decide +kernel
theorem d_L_law_313 : decode b_L_law 313 = .ok (.iload 4, 2) := by decide +kernel
theorem d_L_law_315 : decode b_L_law 315 = .ok (.iconst 1, 1) := by decide +kernel
theorem d_L_law_316 : decode b_L_law 316 = .ok (.iadd, 1) := by decide +kernel
theorem d_L_law_317 : decode b_L_law 317 = .ok (.iaload, 1) := by decide +kernel
theorem d_L_law_318 : decode b_L_law 318 = .ok (.aload_n 0, 1) := by decide +kernel
theorem d_L_law_319 : decode b_L_law 319 = .ok (.iload 4, 2) := by decide +kernel
theorem d_L_law_321 : decode b_L_law 321 = .ok (.iconst 2, 1) := by decide +kernel
theorem d_L_law_322 : decode b_L_law 322 = .ok (.iadd, 1) := by decide +kernel
theorem d_L_law_323 : decode b_L_law 323 = .ok (.iaload, 1) := by decide +kernel
theorem d_L_law_324 : decode b_L_law 324 = .ok (.i2c, 1) := by decide +kernel
theorem d_L_law_325 : decode b_L_law 325 = .ok (.aload_n 0, 1) := by decide +kernel
theorem d_L_law_326 : decode b_L_law 326 = .ok (.iload 4, 2) := by decide +kernel
theorem d_L_law_328 : decode b_L_law 328 = .ok (.iconst 3, 1) := by decide +kernel
theorem d_L_law_329 : decode b_L_law 329 = .ok (.iadd, 1) := by decide +kernel
theorem d_L_law_330 : decode b_L_law 330 = .ok (.iaload, 1) := by decide +kernel
theorem d_L_law_331 : decode b_L_law 331 = .ok (.invokevirtual 80, 3) := by decide +kernel
theorem d_L_law_334 : decode b_L_law 334 = .ok (.aload_n 2, 1) := by decide +kernel
theorem d_L_law_335 : decode b_L_law 335 = .ok (.invokevirtual 66, 3) := by decide +kernel
theorem d_L_law_338 : decode b_L_law 338 = .ok (.iload 5, 2) := by decide +kernel
theorem d_L_law_340 : decode b_L_law 340 = .ok (.if_icmp .eq 5, 3) := by decide +kernel
theorem d_L_law_343 : decode b_L_law 343 = .ok (.iconst 0, 1) := by decide +kernel
theorem d_L_law_344 : decode b_L_law 344 = .ok (.ireturn, 1) := by decide +kernel
theorem d_L_law_345 : decode b_L_law 345 = .ok (.goto 533, 3) := by decide +kernel
theorem d_L_law_348 : decode b_L_law 348 = .ok (.aload_n 1, 1) := by decide +kernel
theorem d_L_law_349 : decode b_L_law 349 = .ok (.aload_n 0, 1) := by decide +kernel
theorem d_L_law_350 : decode b_L_law 350 = .ok (.iload 4, 2) := by decide +kernel
theorem d_L_law_352 : decode b_L_law 352 = .ok (.iconst 1, 1) := by decide +kernel
theorem d_L_law_353 : decode b_L_law 353 = .ok (.iadd, 1) := by decide +kernel
theorem d_L_law_354 : decode b_L_law 354 = .ok (.iaload, 1) := by decide +kernel
theorem d_L_law_355 : decode b_L_law 355 = .ok (.aload_n 0, 1) := by decide +kernel
theorem d_L_law_356 : decode b_L_law 356 = .ok (.iload 4, 2) := by decide +kernel
theorem d_L_law_358 : decode b_L_law 358 = .ok (.iconst 2, 1) := by decide +kernel
theorem d_L_law_359 : decode b_L_law 359 = .ok (.iadd, 1) := by decide +kernel
theorem d_L_law_360 : decode b_L_law 360 = .ok (.iaload, 1) := by decide +kernel
theorem d_L_law_361 : decode b_L_law 361 = .ok (.i2c, 1) := by decide +kernel
theorem d_L_law_362 : decode b_L_law 362 = .ok (.aload_n 3, 1) := by decide +kernel
theorem d_L_law_363 : decode b_L_law 363 = .ok (.invokestatic 81, 3) := by decide +kernel
theorem d_L_law_366 : decode b_L_law 366 = .ok (.istore 5, 2) := by decide +kernel
theorem d_L_law_368 : decode b_L_law 368 = .ok (.aload_n 2, 1) := by decide +kernel
theorem d_L_law_369 : decode b_L_law 369 = .ok (.aload_n 0, 1) := by decide +kernel
theorem d_L_law_370 : decode b_L_law 370 = .ok (.iload 4, 2) := by decide +kernel
theorem d_L_law_372 : decode b_L_law 372 = .ok (.iconst 1, 1) := by decide +kernel
theorem d_L_law_373 : decode b_L_law 373 = .ok (.iadd, 1) := by decide +kernel
theorem d_L_law_374 : decode b_L_law 374 = .ok (.iaload, 1) := by decide +kernel
theorem d_L_law_375 : decode b_L_law 375 = .ok (.aload_n 0, 1) := by decide +kernel
theorem d_L_law_376 : decode b_L_law 376 = .ok (.iload 4, 2) := by decide +kernel
theorem d_L_law_378 : decode b_L_law 378 = .ok (.iconst 2, 1) := by decide +kernel
theorem d_L_law_379 : decode b_L_law 379 = .ok (.iadd, 1) := by decide +kernel
theorem d_L_law_380 : decode b_L_law 380 = .ok (.iaload, 1) := by decide +kernel
theorem d_L_law_381 : decode b_L_law 381 = .ok (.i2c, 1) := by decide +kernel
theorem d_L_law_382 : decode b_L_law 382 = .ok (.invokevirtual 84, 3) := by decide +kernel
theorem d_L_law_385 : decode b_L_law 385 = .ok (.istore 6, 2) := by decide +kernel
theorem d_L_law_387 : decode b_L_law 387 = .ok (.aload_n 2, 1) := by decide +kernel
theorem d_L_law_388 : decode b_L_law 388 = .ok (.invokevirtual 66, 3) := by decide +kernel
theorem d_L_law_391 : decode b_L_law 391 = .ok (.iload 5, 2) := by decide +kernel
theorem d_L_law_393 : decode b_L_law 393 = .ok (.if_icmp .eq 5, 3) := by decide +kernel
theorem d_L_law_396 : decode b_L_law 396 = .ok (.iconst 0, 1) := by decide +kernel
theorem d_L_law_397 : decode b_L_law 397 = .ok (.ireturn, 1) := by decide +kernel
theorem d_L_law_398 : decode b_L_law 398 = .ok (.iload 5, 2) := by decide +kernel
theorem d_L_law_400 : decode b_L_law 400 = .ok (.ifCond .ne 15, 3) := by decide +kernel
theorem d_L_law_403 : decode b_L_law 403 = .ok (.aload_n 3, 1) := by decide +kernel
theorem d_L_law_404 : decode b_L_law 404 = .ok (.iconst 0, 1) := by decide +kernel
theorem d_L_law_405 : decode b_L_law 405 = .ok (.laload, 1) := by decide +kernel
theorem d_L_law_406 : decode b_L_law 406 = .ok (.iload 6, 2) := by decide +kernel
theorem d_L_law_408 : decode b_L_law 408 = .ok (.i2l, 1) := by decide +kernel
theorem d_L_law_409 : decode b_L_law 409 = .ok (.lcmp, 1) := by decide +kernel
theorem d_L_law_410 : decode b_L_law 410 = .ok (.ifCond .eq 5, 3) := by decide +kernel
theorem d_L_law_413 : decode b_L_law 413 = .ok (.iconst 0, 1) := by decide +kernel
theorem d_L_law_414 : decode b_L_law 414 = .ok (.ireturn, 1) := by decide +kernel
theorem d_L_law_415 : decode b_L_law 415 = .ok (.goto 463, 3) := by decide +kernel
theorem d_L_law_418 : decode b_L_law 418 = .ok (.aload_n 1, 1) := by decide +kernel
theorem d_L_law_419 : decode b_L_law 419 = .ok (.aload_n 0, 1) := by decide +kernel
theorem d_L_law_420 : decode b_L_law 420 = .ok (.iload 4, 2) := by decide +kernel
theorem d_L_law_422 : decode b_L_law 422 = .ok (.iconst 1, 1) := by decide +kernel
theorem d_L_law_423 : decode b_L_law 423 = .ok (.iadd, 1) := by decide +kernel
theorem d_L_law_424 : decode b_L_law 424 = .ok (.iaload, 1) := by decide +kernel
theorem d_L_law_425 : decode b_L_law 425 = .ok (.aload_n 0, 1) := by decide +kernel
theorem d_L_law_426 : decode b_L_law 426 = .ok (.iload 4, 2) := by decide +kernel
theorem d_L_law_428 : decode b_L_law 428 = .ok (.iconst 2, 1) := by decide +kernel
theorem d_L_law_429 : decode b_L_law 429 = .ok (.iadd, 1) := by decide +kernel
theorem d_L_law_430 : decode b_L_law 430 = .ok (.iaload, 1) := by decide +kernel
theorem d_L_law_431 : decode b_L_law 431 = .ok (.aload_n 3, 1) := by decide +kernel
theorem d_L_law_432 : decode b_L_law 432 = .ok (.invokestatic 85, 3) := by decide +kernel
theorem d_L_law_435 : decode b_L_law 435 = .ok (.istore 5, 2) := by decide +kernel
theorem d_L_law_437 : decode b_L_law 437 = .ok (.aload_n 2, 1) := by decide +kernel
theorem d_L_law_438 : decode b_L_law 438 = .ok (.aload_n 0, 1) := by decide +kernel
theorem d_L_law_439 : decode b_L_law 439 = .ok (.iload 4, 2) := by decide +kernel
theorem d_L_law_441 : decode b_L_law 441 = .ok (.iconst 1, 1) := by decide +kernel
theorem d_L_law_442 : decode b_L_law 442 = .ok (.iadd, 1) := by decide +kernel
theorem d_L_law_443 : decode b_L_law 443 = .ok (.iaload, 1) := by decide +kernel
theorem d_L_law_444 : decode b_L_law 444 = .ok (.aload_n 0, 1) := by decide +kernel
theorem d_L_law_445 : decode b_L_law 445 = .ok (.iload 4, 2) := by decide +kernel
theorem d_L_law_447 : decode b_L_law 447 = .ok (.iconst 2, 1) := by decide +kernel
theorem d_L_law_448 : decode b_L_law 448 = .ok (.iadd, 1) := by decide +kernel
theorem d_L_law_449 : decode b_L_law 449 = .ok (.iaload, 1) := by decide +kernel
theorem d_L_law_450 : decode b_L_law 450 = .ok (.invokevirtual 88, 3) := by decide +kernel
theorem d_L_law_453 : decode b_L_law 453 = .ok (.istore 6, 2) := by decide +kernel
theorem d_L_law_455 : decode b_L_law 455 = .ok (.aload_n 2, 1) := by decide +kernel
theorem d_L_law_456 : decode b_L_law 456 = .ok (.invokevirtual 66, 3) := by decide +kernel
theorem d_L_law_459 : decode b_L_law 459 = .ok (.iload 5, 2) := by decide +kernel
theorem d_L_law_461 : decode b_L_law 461 = .ok (.if_icmp .eq 5, 3) := by decide +kernel
theorem d_L_law_464 : decode b_L_law 464 = .ok (.iconst 0, 1) := by decide +kernel
theorem d_L_law_465 : decode b_L_law 465 = .ok (.ireturn, 1) := by decide +kernel
theorem d_L_law_466 : decode b_L_law 466 = .ok (.iload 5, 2) := by decide +kernel
theorem d_L_law_468 : decode b_L_law 468 = .ok (.ifCond .ne 22, 3) := by decide +kernel
theorem d_L_law_471 : decode b_L_law 471 = .ok (.aload_n 3, 1) := by decide +kernel
theorem d_L_law_472 : decode b_L_law 472 = .ok (.iconst 0, 1) := by decide +kernel
theorem d_L_law_473 : decode b_L_law 473 = .ok (.laload, 1) := by decide +kernel
theorem d_L_law_474 : decode b_L_law 474 = .ok (.iload 6, 2) := by decide +kernel
theorem d_L_law_476 : decode b_L_law 476 = .ok (.ifCond .eq 7, 3) := by decide +kernel
theorem d_L_law_479 : decode b_L_law 479 = .ok (.lconst 1, 1) := by decide +kernel
theorem d_L_law_480 : decode b_L_law 480 = .ok (.goto 4, 3) := by decide +kernel
theorem d_L_law_483 : decode b_L_law 483 = .ok (.lconst 0, 1) := by decide +kernel
theorem d_L_law_484 : decode b_L_law 484 = .ok (.lcmp, 1) := by decide +kernel
theorem d_L_law_485 : decode b_L_law 485 = .ok (.ifCond .eq 5, 3) := by decide +kernel
theorem d_L_law_488 : decode b_L_law 488 = .ok (.iconst 0, 1) := by decide +kernel
theorem d_L_law_489 : decode b_L_law 489 = .ok (.ireturn, 1) := by decide +kernel
theorem d_L_law_490 : decode b_L_law 490 = .ok (.goto 388, 3) := by decide +kernel
theorem d_L_law_493 : decode b_L_law 493 = .ok (.aload_n 1, 1) := by decide +kernel
theorem d_L_law_494 : decode b_L_law 494 = .ok (.aload_n 0, 1) := by decide +kernel
theorem d_L_law_495 : decode b_L_law 495 = .ok (.iload 4, 2) := by decide +kernel
theorem d_L_law_497 : decode b_L_law 497 = .ok (.iconst 1, 1) := by decide +kernel
theorem d_L_law_498 : decode b_L_law 498 = .ok (.iadd, 1) := by decide +kernel
theorem d_L_law_499 : decode b_L_law 499 = .ok (.iaload, 1) := by decide +kernel
theorem d_L_law_500 : decode b_L_law 500 = .ok (.aload_n 0, 1) := by decide +kernel
theorem d_L_law_501 : decode b_L_law 501 = .ok (.iload 4, 2) := by decide +kernel
theorem d_L_law_503 : decode b_L_law 503 = .ok (.iconst 2, 1) := by decide +kernel
theorem d_L_law_504 : decode b_L_law 504 = .ok (.iadd, 1) := by decide +kernel
theorem d_L_law_505 : decode b_L_law 505 = .ok (.iaload, 1) := by decide +kernel
theorem d_L_law_506 : decode b_L_law 506 = .ok (.aload_n 0, 1) := by decide +kernel
theorem d_L_law_507 : decode b_L_law 507 = .ok (.iload 4, 2) := by decide +kernel
theorem d_L_law_509 : decode b_L_law 509 = .ok (.iconst 3, 1) := by decide +kernel
theorem d_L_law_510 : decode b_L_law 510 = .ok (.iadd, 1) := by decide +kernel
theorem d_L_law_511 : decode b_L_law 511 = .ok (.iaload, 1) := by decide +kernel
theorem d_L_law_512 : decode b_L_law 512 = .ok (.ifCond .eq 7, 3) := by decide +kernel
theorem d_L_law_515 : decode b_L_law 515 = .ok (.iconst 1, 1) := by decide +kernel
theorem d_L_law_516 : decode b_L_law 516 = .ok (.goto 4, 3) := by decide +kernel
theorem d_L_law_519 : decode b_L_law 519 = .ok (.iconst 0, 1) := by decide +kernel
theorem d_L_law_520 : decode b_L_law 520 = .ok (.invokevirtual 89, 3) := by decide +kernel
theorem d_L_law_523 : decode b_L_law 523 = .ok (.aload_n 2, 1) := by decide +kernel
theorem d_L_law_524 : decode b_L_law 524 = .ok (.aload_n 0, 1) := by decide +kernel
theorem d_L_law_525 : decode b_L_law 525 = .ok (.iload 4, 2) := by decide +kernel
theorem d_L_law_527 : decode b_L_law 527 = .ok (.iconst 1, 1) := by decide +kernel
theorem d_L_law_528 : decode b_L_law 528 = .ok (.iadd, 1) := by decide +kernel
theorem d_L_law_529 : decode b_L_law 529 = .ok (.iaload, 1) := by decide +kernel
theorem d_L_law_530 : decode b_L_law 530 = .ok (.aload_n 0, 1) := by decide +kernel
theorem d_L_law_531 : decode b_L_law 531 = .ok (.iload 4, 2) := by decide +kernel
theorem d_L_law_533 : decode b_L_law 533 = .ok (.iconst 2, 1) := by decide +kernel
theorem d_L_law_534 : decode b_L_law 534 = .ok (.iadd, 1) := by decide +kernel
theorem d_L_law_535 : decode b_L_law 535 = .ok (.iaload, 1) := by decide +kernel
theorem d_L_law_536 : decode b_L_law 536 = .ok (.aload_n 0, 1) := by decide +kernel
theorem d_L_law_537 : decode b_L_law 537 = .ok (.iload 4, 2) := by decide +kernel
theorem d_L_law_539 : decode b_L_law 539 = .ok (.iconst 3, 1) := by decide +kernel
theorem d_L_law_540 : decode b_L_law 540 = .ok (.iadd, 1) := by decide +kernel
theorem d_L_law_541 : decode b_L_law 541 = .ok (.iaload, 1) := by decide +kernel
theorem d_L_law_542 : decode b_L_law 542 = .ok (.ifCond .eq 7, 3) := by decide +kernel
theorem d_L_law_545 : decode b_L_law 545 = .ok (.iconst 1, 1) := by decide +kernel
theorem d_L_law_546 : decode b_L_law 546 = .ok (.goto 4, 3) := by decide +kernel
theorem d_L_law_549 : decode b_L_law 549 = .ok (.iconst 0, 1) := by decide +kernel
theorem d_L_law_550 : decode b_L_law 550 = .ok (.invokevirtual 93, 3) := by decide +kernel
theorem d_L_law_553 : decode b_L_law 553 = .ok (.if_icmp .eq 325, 3) := by decide +kernel
theorem d_L_law_556 : decode b_L_law 556 = .ok (.iconst 0, 1) := by decide +kernel
theorem d_L_law_557 : decode b_L_law 557 = .ok (.ireturn, 1) := by decide +kernel
theorem d_L_law_558 : decode b_L_law 558 = .ok (.aload_n 1, 1) := by decide +kernel
theorem d_L_law_559 : decode b_L_law 559 = .ok (.aload_n 0, 1) := by decide +kernel
theorem d_L_law_560 : decode b_L_law 560 = .ok (.iload 4, 2) := by decide +kernel
theorem d_L_law_562 : decode b_L_law 562 = .ok (.iconst 1, 1) := by decide +kernel
theorem d_L_law_563 : decode b_L_law 563 = .ok (.iadd, 1) := by decide +kernel
theorem d_L_law_564 : decode b_L_law 564 = .ok (.iaload, 1) := by decide +kernel
theorem d_L_law_565 : decode b_L_law 565 = .ok (.aload_n 0, 1) := by decide +kernel
theorem d_L_law_566 : decode b_L_law 566 = .ok (.iload 4, 2) := by decide +kernel
theorem d_L_law_568 : decode b_L_law 568 = .ok (.iconst 2, 1) := by decide +kernel
theorem d_L_law_569 : decode b_L_law 569 = .ok (.iadd, 1) := by decide +kernel
theorem d_L_law_570 : decode b_L_law 570 = .ok (.iaload, 1) := by decide +kernel
theorem d_L_law_571 : decode b_L_law 571 = .ok (.invokestatic 94, 3) := by decide +kernel
theorem d_L_law_574 : decode b_L_law 574 = .ok (.istore 5, 2) := by decide +kernel
theorem d_L_law_576 : decode b_L_law 576 = .ok (.aload_n 2, 1) := by decide +kernel
theorem d_L_law_577 : decode b_L_law 577 = .ok (.aload_n 0, 1) := by decide +kernel
theorem d_L_law_578 : decode b_L_law 578 = .ok (.iload 4, 2) := by decide +kernel
theorem d_L_law_580 : decode b_L_law 580 = .ok (.iconst 1, 1) := by decide +kernel
theorem d_L_law_581 : decode b_L_law 581 = .ok (.iadd, 1) := by decide +kernel
theorem d_L_law_582 : decode b_L_law 582 = .ok (.iaload, 1) := by decide +kernel
theorem d_L_law_583 : decode b_L_law 583 = .ok (.aload_n 0, 1) := by decide +kernel
theorem d_L_law_584 : decode b_L_law 584 = .ok (.iload 4, 2) := by decide +kernel
theorem d_L_law_586 : decode b_L_law 586 = .ok (.iconst 2, 1) := by decide +kernel
theorem d_L_law_587 : decode b_L_law 587 = .ok (.iadd, 1) := by decide +kernel
theorem d_L_law_588 : decode b_L_law 588 = .ok (.iaload, 1) := by decide +kernel
theorem d_L_law_589 : decode b_L_law 589 = .ok (.invokevirtual 97, 3) := by decide +kernel
theorem d_L_law_592 : decode b_L_law 592 = .ok (.aload_n 2, 1) := by decide +kernel
theorem d_L_law_593 : decode b_L_law 593 = .ok (.invokevirtual 66, 3) := by decide +kernel
theorem d_L_law_596 : decode b_L_law 596 = .ok (.iload 5, 2) := by decide +kernel
theorem d_L_law_598 : decode b_L_law 598 = .ok (.if_icmp .eq 5, 3) := by decide +kernel
theorem d_L_law_601 : decode b_L_law 601 = .ok (.iconst 0, 1) := by decide +kernel
theorem d_L_law_602 : decode b_L_law 602 = .ok (.ireturn, 1) := by decide +kernel
theorem d_L_law_603 : decode b_L_law 603 = .ok (.goto 275, 3) := by decide +kernel
theorem d_L_law_606 : decode b_L_law 606 = .ok (.aload_n 1, 1) := by decide +kernel
theorem d_L_law_607 : decode b_L_law 607 = .ok (.aload_n 0, 1) := by decide +kernel
theorem d_L_law_608 : decode b_L_law 608 = .ok (.iload 4, 2) := by decide +kernel
theorem d_L_law_610 : decode b_L_law 610 = .ok (.iconst 1, 1) := by decide +kernel
theorem d_L_law_611 : decode b_L_law 611 = .ok (.iadd, 1) := by decide +kernel
theorem d_L_law_612 : decode b_L_law 612 = .ok (.iaload, 1) := by decide +kernel
theorem d_L_law_613 : decode b_L_law 613 = .ok (.aload_n 3, 1) := by decide +kernel
theorem d_L_law_614 : decode b_L_law 614 = .ok (.invokestatic 98, 3) := by decide +kernel
theorem d_L_law_617 : decode b_L_law 617 = .ok (.istore 5, 2) := by decide +kernel
theorem d_L_law_619 : decode b_L_law 619 = .ok (.aload_n 2, 1) := by decide +kernel
theorem d_L_law_620 : decode b_L_law 620 = .ok (.aload_n 0, 1) := by decide +kernel
theorem d_L_law_621 : decode b_L_law 621 = .ok (.iload 4, 2) := by decide +kernel
theorem d_L_law_623 : decode b_L_law 623 = .ok (.iconst 1, 1) := by decide +kernel
theorem d_L_law_624 : decode b_L_law 624 = .ok (.iadd, 1) := by decide +kernel
theorem d_L_law_625 : decode b_L_law 625 = .ok (.iaload, 1) := by decide +kernel
theorem d_L_law_626 : decode b_L_law 626 = .ok (.invokevirtual 101, 3) := by decide +kernel
theorem d_L_law_629 : decode b_L_law 629 = .ok (.istore 6, 2) := by decide +kernel
theorem d_L_law_631 : decode b_L_law 631 = .ok (.aload_n 2, 1) := by decide +kernel
theorem d_L_law_632 : decode b_L_law 632 = .ok (.invokevirtual 66, 3) := by decide +kernel
theorem d_L_law_635 : decode b_L_law 635 = .ok (.iload 5, 2) := by decide +kernel
theorem d_L_law_637 : decode b_L_law 637 = .ok (.if_icmp .eq 5, 3) := by decide +kernel
theorem d_L_law_640 : decode b_L_law 640 = .ok (.iconst 0, 1) := by decide +kernel
theorem d_L_law_641 : decode b_L_law 641 = .ok (.ireturn, 1) := by decide +kernel
theorem d_L_law_642 : decode b_L_law 642 = .ok (.iload 5, 2) := by decide +kernel
theorem d_L_law_644 : decode b_L_law 644 = .ok (.ifCond .ne 22, 3) := by decide +kernel
theorem d_L_law_647 : decode b_L_law 647 = .ok (.aload_n 3, 1) := by decide +kernel
theorem d_L_law_648 : decode b_L_law 648 = .ok (.iconst 0, 1) := by decide +kernel
theorem d_L_law_649 : decode b_L_law 649 = .ok (.laload, 1) := by decide +kernel
theorem d_L_law_650 : decode b_L_law 650 = .ok (.iload 6, 2) := by decide +kernel
theorem d_L_law_652 : decode b_L_law 652 = .ok (.ifCond .eq 7, 3) := by decide +kernel
theorem d_L_law_655 : decode b_L_law 655 = .ok (.lconst 1, 1) := by decide +kernel
theorem d_L_law_656 : decode b_L_law 656 = .ok (.goto 4, 3) := by decide +kernel
theorem d_L_law_659 : decode b_L_law 659 = .ok (.lconst 0, 1) := by decide +kernel
theorem d_L_law_660 : decode b_L_law 660 = .ok (.lcmp, 1) := by decide +kernel
theorem d_L_law_661 : decode b_L_law 661 = .ok (.ifCond .eq 5, 3) := by decide +kernel
theorem d_L_law_664 : decode b_L_law 664 = .ok (.iconst 0, 1) := by decide +kernel
theorem d_L_law_665 : decode b_L_law 665 = .ok (.ireturn, 1) := by decide +kernel
theorem d_L_law_666 : decode b_L_law 666 = .ok (.goto 212, 3) := by decide +kernel
theorem d_L_law_669 : decode b_L_law 669 = .ok (.aload_n 1, 1) := by decide +kernel
theorem d_L_law_670 : decode b_L_law 670 = .ok (.invokevirtual 102, 3) := by decide +kernel
theorem d_L_law_673 : decode b_L_law 673 = .ok (.aload_n 2, 1) := by decide +kernel
theorem d_L_law_674 : decode b_L_law 674 = .ok (.invokevirtual 105, 3) := by decide +kernel
theorem d_L_law_677 : decode b_L_law 677 = .ok (.if_icmp .eq 201, 3) := by decide +kernel
theorem d_L_law_680 : decode b_L_law 680 = .ok (.iconst 0, 1) := by decide +kernel
theorem d_L_law_681 : decode b_L_law 681 = .ok (.ireturn, 1) := by decide +kernel
theorem d_L_law_682 : decode b_L_law 682 = .ok (.aload_n 1, 1) := by decide +kernel
theorem d_L_law_683 : decode b_L_law 683 = .ok (.aload_n 0, 1) := by decide +kernel
theorem d_L_law_684 : decode b_L_law 684 = .ok (.iload 4, 2) := by decide +kernel
theorem d_L_law_686 : decode b_L_law 686 = .ok (.iconst 1, 1) := by decide +kernel
theorem d_L_law_687 : decode b_L_law 687 = .ok (.iadd, 1) := by decide +kernel
theorem d_L_law_688 : decode b_L_law 688 = .ok (.iaload, 1) := by decide +kernel
theorem d_L_law_689 : decode b_L_law 689 = .ok (.i2l, 1) := by decide +kernel
theorem d_L_law_690 : decode b_L_law 690 = .ok (.bipush 32, 2) := by decide +kernel
theorem d_L_law_692 : decode b_L_law 692 = .ok (.lshl, 1) := by decide +kernel
theorem d_L_law_693 : decode b_L_law 693 = .ok (.aload_n 0, 1) := by decide +kernel
theorem d_L_law_694 : decode b_L_law 694 = .ok (.iload 4, 2) := by decide +kernel
theorem d_L_law_696 : decode b_L_law 696 = .ok (.iconst 2, 1) := by decide +kernel
theorem d_L_law_697 : decode b_L_law 697 = .ok (.iadd, 1) := by decide +kernel
theorem d_L_law_698 : decode b_L_law 698 = .ok (.iaload, 1) := by decide +kernel
theorem d_L_law_699 : decode b_L_law 699 = .ok (.i2l, 1) := by decide +kernel
theorem d_L_law_700 : decode b_L_law 700 = .ok (.ldc2_w 106, 3) := by decide +kernel
theorem d_L_law_703 : decode b_L_law 703 = .ok (.land, 1) := by decide +kernel
theorem d_L_law_704 : decode b_L_law 704 = .ok (.lor, 1) := by decide +kernel
theorem d_L_law_705 : decode b_L_law 705 = .ok (.invokevirtual 108, 3) := by decide +kernel
theorem d_L_law_708 : decode b_L_law 708 = .ok (.aload_n 2, 1) := by decide +kernel
theorem d_L_law_709 : decode b_L_law 709 = .ok (.aload_n 0, 1) := by decide +kernel
theorem d_L_law_710 : decode b_L_law 710 = .ok (.iload 4, 2) := by decide +kernel
theorem d_L_law_712 : decode b_L_law 712 = .ok (.iconst 1, 1) := by decide +kernel
theorem d_L_law_713 : decode b_L_law 713 = .ok (.iadd, 1) := by decide +kernel
theorem d_L_law_714 : decode b_L_law 714 = .ok (.iaload, 1) := by decide +kernel
theorem d_L_law_715 : decode b_L_law 715 = .ok (.i2l, 1) := by decide +kernel
theorem d_L_law_716 : decode b_L_law 716 = .ok (.bipush 32, 2) := by decide +kernel
theorem d_L_law_718 : decode b_L_law 718 = .ok (.lshl, 1) := by decide +kernel
theorem d_L_law_719 : decode b_L_law 719 = .ok (.aload_n 0, 1) := by decide +kernel
theorem d_L_law_720 : decode b_L_law 720 = .ok (.iload 4, 2) := by decide +kernel
theorem d_L_law_722 : decode b_L_law 722 = .ok (.iconst 2, 1) := by decide +kernel
theorem d_L_law_723 : decode b_L_law 723 = .ok (.iadd, 1) := by decide +kernel
theorem d_L_law_724 : decode b_L_law 724 = .ok (.iaload, 1) := by decide +kernel
theorem d_L_law_725 : decode b_L_law 725 = .ok (.i2l, 1) := by decide +kernel
theorem d_L_law_726 : decode b_L_law 726 = .ok (.ldc2_w 106, 3) := by decide +kernel
theorem d_L_law_729 : decode b_L_law 729 = .ok (.land, 1) := by decide +kernel
theorem d_L_law_730 : decode b_L_law 730 = .ok (.lor, 1) := by decide +kernel
theorem d_L_law_731 : decode b_L_law 731 = .ok (.invokevirtual 112, 3) := by decide +kernel
theorem d_L_law_734 : decode b_L_law 734 = .ok (.if_icmp .eq 144, 3) := by decide +kernel
theorem d_L_law_737 : decode b_L_law 737 = .ok (.iconst 0, 1) := by decide +kernel
theorem d_L_law_738 : decode b_L_law 738 = .ok (.ireturn, 1) := by decide +kernel
theorem d_L_law_739 : decode b_L_law 739 = .ok (.aload_n 1, 1) := by decide +kernel
theorem d_L_law_740 : decode b_L_law 740 = .ok (.invokevirtual 113, 3) := by decide +kernel
theorem d_L_law_743 : decode b_L_law 743 = .ok (.aload_n 2, 1) := by decide +kernel
theorem d_L_law_744 : decode b_L_law 744 = .ok (.invokevirtual 116, 3) := by decide +kernel
theorem d_L_law_747 : decode b_L_law 747 = .ok (.if_icmp .eq 131, 3) := by decide +kernel
theorem d_L_law_750 : decode b_L_law 750 = .ok (.iconst 0, 1) := by decide +kernel
theorem d_L_law_751 : decode b_L_law 751 = .ok (.ireturn, 1) := by decide +kernel
theorem d_L_law_752 : decode b_L_law 752 = .ok (.aload_n 1, 1) := by decide +kernel
theorem d_L_law_753 : decode b_L_law 753 = .ok (.aload_n 3, 1) := by decide +kernel
theorem d_L_law_754 : decode b_L_law 754 = .ok (.invokestatic 117, 3) := by decide +kernel
theorem d_L_law_757 : decode b_L_law 757 = .ok (.istore 5, 2) := by decide +kernel
theorem d_L_law_759 : decode b_L_law 759 = .ok (.aload_n 2, 1) := by decide +kernel
theorem d_L_law_760 : decode b_L_law 760 = .ok (.invokevirtual 119, 3) := by decide +kernel
theorem d_L_law_763 : decode b_L_law 763 = .ok (.istore 6, 2) := by decide +kernel
theorem d_L_law_765 : decode b_L_law 765 = .ok (.aload_n 2, 1) := by decide +kernel
theorem d_L_law_766 : decode b_L_law 766 = .ok (.invokevirtual 66, 3) := by decide +kernel
theorem d_L_law_769 : decode b_L_law 769 = .ok (.iload 5, 2) := by decide +kernel
theorem d_L_law_771 : decode b_L_law 771 = .ok (.if_icmp .eq 5, 3) := by decide +kernel
theorem d_L_law_774 : decode b_L_law 774 = .ok (.iconst 0, 1) := by decide +kernel
theorem d_L_law_775 : decode b_L_law 775 = .ok (.ireturn, 1) := by decide +kernel
theorem d_L_law_776 : decode b_L_law 776 = .ok (.iload 5, 2) := by decide +kernel
theorem d_L_law_778 : decode b_L_law 778 = .ok (.ifCond .ne 15, 3) := by decide +kernel
theorem d_L_law_781 : decode b_L_law 781 = .ok (.aload_n 3, 1) := by decide +kernel
theorem d_L_law_782 : decode b_L_law 782 = .ok (.iconst 0, 1) := by decide +kernel
theorem d_L_law_783 : decode b_L_law 783 = .ok (.laload, 1) := by decide +kernel
theorem d_L_law_784 : decode b_L_law 784 = .ok (.iload 6, 2) := by decide +kernel
theorem d_L_law_786 : decode b_L_law 786 = .ok (.i2l, 1) := by decide +kernel
theorem d_L_law_787 : decode b_L_law 787 = .ok (.lcmp, 1) := by decide +kernel
theorem d_L_law_788 : decode b_L_law 788 = .ok (.ifCond .eq 5, 3) := by decide +kernel
theorem d_L_law_791 : decode b_L_law 791 = .ok (.iconst 0, 1) := by decide +kernel
theorem d_L_law_792 : decode b_L_law 792 = .ok (.ireturn, 1) := by decide +kernel
theorem d_L_law_793 : decode b_L_law 793 = .ok (.goto 85, 3) := by decide +kernel
theorem d_L_law_796 : decode b_L_law 796 = .ok (.aload_n 1, 1) := by decide +kernel
theorem d_L_law_797 : decode b_L_law 797 = .ok (.invokevirtual 120, 3) := by decide +kernel
theorem d_L_law_800 : decode b_L_law 800 = .ok (.aload_n 2, 1) := by decide +kernel
theorem d_L_law_801 : decode b_L_law 801 = .ok (.invokevirtual 123, 3) := by decide +kernel
theorem d_L_law_804 : decode b_L_law 804 = .ok (.if_icmp .eq 74, 3) := by decide +kernel
theorem d_L_law_807 : decode b_L_law 807 = .ok (.iconst 0, 1) := by decide +kernel
theorem d_L_law_808 : decode b_L_law 808 = .ok (.ireturn, 1) := by decide +kernel
theorem d_L_law_809 : decode b_L_law 809 = .ok (.aload_n 1, 1) := by decide +kernel
theorem d_L_law_810 : decode b_L_law 810 = .ok (.invokevirtual 124, 3) := by decide +kernel
theorem d_L_law_813 : decode b_L_law 813 = .ok (.aload_n 2, 1) := by decide +kernel
theorem d_L_law_814 : decode b_L_law 814 = .ok (.invokevirtual 127, 3) := by decide +kernel
theorem d_L_law_817 : decode b_L_law 817 = .ok (.if_icmp .eq 61, 3) := by decide +kernel
theorem d_L_law_820 : decode b_L_law 820 = .ok (.iconst 0, 1) := by decide +kernel
theorem d_L_law_821 : decode b_L_law 821 = .ok (.ireturn, 1) := by decide +kernel
theorem d_L_law_822 : decode b_L_law 822 = .ok (.aload_n 1, 1) := by decide +kernel
theorem d_L_law_823 : decode b_L_law 823 = .ok (.aload_n 0, 1) := by decide +kernel
theorem d_L_law_824 : decode b_L_law 824 = .ok (.iload 4, 2) := by decide +kernel
theorem d_L_law_826 : decode b_L_law 826 = .ok (.iconst 1, 1) := by decide +kernel
theorem d_L_law_827 : decode b_L_law 827 = .ok (.iadd, 1) := by decide +kernel
theorem d_L_law_828 : decode b_L_law 828 = .ok (.iaload, 1) := by decide +kernel
theorem d_L_law_829 : decode b_L_law 829 = .ok (.aload_n 3, 1) := by decide +kernel
theorem d_L_law_830 : decode b_L_law 830 = .ok (.invokestatic 128, 3) := by decide +kernel
theorem d_L_law_833 : decode b_L_law 833 = .ok (.istore 5, 2) := by decide +kernel
theorem d_L_law_835 : decode b_L_law 835 = .ok (.aload_n 2, 1) := by decide +kernel
theorem d_L_law_836 : decode b_L_law 836 = .ok (.aload_n 0, 1) := by decide +kernel
theorem d_L_law_837 : decode b_L_law 837 = .ok (.iload 4, 2) := by decide +kernel
theorem d_L_law_839 : decode b_L_law 839 = .ok (.iconst 1, 1) := by decide +kernel
theorem d_L_law_840 : decode b_L_law 840 = .ok (.iadd, 1) := by decide +kernel
theorem d_L_law_841 : decode b_L_law 841 = .ok (.iaload, 1) := by decide +kernel
theorem d_L_law_842 : decode b_L_law 842 = .ok (.invokevirtual 130, 3) := by decide +kernel
theorem d_L_law_845 : decode b_L_law 845 = .ok (.istore 6, 2) := by decide +kernel
theorem d_L_law_847 : decode b_L_law 847 = .ok (.aload_n 2, 1) := by decide +kernel
theorem d_L_law_848 : decode b_L_law 848 = .ok (.invokevirtual 66, 3) := by decide +kernel
theorem d_L_law_851 : decode b_L_law 851 = .ok (.iload 5, 2) := by decide +kernel
theorem d_L_law_853 : decode b_L_law 853 = .ok (.if_icmp .eq 5, 3) := by decide +kernel
theorem d_L_law_856 : decode b_L_law 856 = .ok (.iconst 0, 1) := by decide +kernel
theorem d_L_law_857 : decode b_L_law 857 = .ok (.ireturn, 1) := by decide +kernel
theorem d_L_law_858 : decode b_L_law 858 = .ok (.iload 5, 2) := by decide +kernel
theorem d_L_law_860 : decode b_L_law 860 = .ok (.ifCond .ne 15, 3) := by decide +kernel
theorem d_L_law_863 : decode b_L_law 863 = .ok (.aload_n 3, 1) := by decide +kernel
theorem d_L_law_864 : decode b_L_law 864 = .ok (.iconst 0, 1) := by decide +kernel
theorem d_L_law_865 : decode b_L_law 865 = .ok (.laload, 1) := by decide +kernel
theorem d_L_law_866 : decode b_L_law 866 = .ok (.iload 6, 2) := by decide +kernel
theorem d_L_law_868 : decode b_L_law 868 = .ok (.i2l, 1) := by decide +kernel
theorem d_L_law_869 : decode b_L_law 869 = .ok (.lcmp, 1) := by decide +kernel
theorem d_L_law_870 : decode b_L_law 870 = .ok (.ifCond .eq 5, 3) := by decide +kernel
theorem d_L_law_873 : decode b_L_law 873 = .ok (.iconst 0, 1) := by decide +kernel
theorem d_L_law_874 : decode b_L_law 874 = .ok (.ireturn, 1) := by decide +kernel
theorem d_L_law_875 : decode b_L_law 875 = .ok (.goto 3, 3) := by decide +kernel
theorem d_L_law_878 : decode b_L_law 878 = .ok (.iinc 4 5, 3) := by decide +kernel
theorem d_L_law_881 : decode b_L_law 881 = .ok (.goto (-858), 3) := by decide +kernel
theorem d_L_law_884 : decode b_L_law 884 = .ok (.iconst 1, 1) := by decide +kernel
theorem d_L_law_885 : decode b_L_law 885 = .ok (.ireturn, 1) := by decide +kernel
