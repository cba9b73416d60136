theorem d_M_init_0 : decode b_M_init 0 = .ok (.aload_n 0, 1) := by decide +kernel
theorem d_M_init_1 : decode b_M_init 1 = .ok (.invokespecial 1, 3) := by decide +kernel
theorem d_M_init_4 : decode b_M_init 4 = .ok (.aload_n 0, 1) := by decide +kernel
theorem d_M_init_5 : decode b_M_init 5 = .ok (.bipush 32, 2) := by decide +kernel
theorem d_M_init_7 : decode b_M_init 7 = .ok (.newarray .boolean, 2) := by decide +kernel
theorem d_M_init_9 : decode b_M_init 9 = .ok (.putfield 7, 3) := by decide +kernel
theorem d_M_init_12 : decode b_M_init 12 = .ok (.aload_n 0, 1) := by decide +kernel
theorem d_M_init_13 : decode b_M_init 13 = .ok (.bipush 32, 2) := by decide +kernel
theorem d_M_init_15 : decode b_M_init 15 = .ok (.newarray .int, 2) := by decide +kernel
theorem d_M_init_17 : decode b_M_init 17 = .ok (.putfield 13, 3) := by decide +kernel
theorem d_M_init_20 : decode b_M_init 20 = .ok (.aload_n 0, 1) := by decide +kernel
theorem d_M_init_21 : decode b_M_init 21 = .ok (.bipush 32, 2) := by decide +kernel
theorem d_M_init_23 : decode b_M_init 23 = .ok (.newarray .boolean, 2) := by decide +kernel
theorem d_M_init_25 : decode b_M_init 25 = .ok (.putfield 17, 3) := by decide +kernel
theorem d_M_init_28 : decode b_M_init 28 = .ok (.aload_n 0, 1) := by decide +kernel
theorem d_M_init_29 : decode b_M_init 29 = .ok (.bipush 6, 2) := by decide +kernel
theorem d_M_init_31 : decode b_M_init 31 = .ok (.newarray .char, 2) := by decide +kernel
theorem d_M_init_33 : decode b_M_init 33 = .ok (.putfield 20, 3) := by decide +kernel
theorem d_M_init_36 : decode b_M_init 36 = .ok (.aload_n 0, 1) := by decide +kernel
theorem d_M_init_37 : decode b_M_init 37 = .ok (.bipush 6, 2) := by decide +kernel
theorem d_M_init_39 : decode b_M_init 39 = .ok (.newarray .int, 2) := by decide +kernel
theorem d_M_init_41 : decode b_M_init 41 = .ok (.putfield 24, 3) := by decide +kernel
theorem d_M_init_44 : decode b_M_init 44 = .ok (.aload_n 0, 1) := by decide +kernel
theorem d_M_init_45 : decode b_M_init 45 = .ok (.bipush 6, 2) := by decide +kernel
theorem d_M_init_47 : decode b_M_init 47 = .ok (.newarray .int, 2) := by decide +kernel
theorem d_M_init_49 : decode b_M_init 49 = .ok (.putfield 27, 3) := by decide +kernel
theorem d_M_init_52 : decode b_M_init 52 = .ok (.aload_n 0, 1) := by decide +kernel
theorem d_M_init_53 : decode b_M_init 53 = .ok (.bipush 6, 2) := by decide +kernel
theorem d_M_init_55 : decode b_M_init 55 = .ok (.newarray .boolean, 2) := by decide +kernel
theorem d_M_init_57 : decode b_M_init 57 = .ok (.putfield 30, 3) := by decide +kernel
theorem d_M_init_60 : decode b_M_init 60 = .ok (.aload_n 0, 1) := by decide +kernel
theorem d_M_init_61 : decode b_M_init 61 = .ok (.bipush 100, 2) := by decide +kernel
theorem d_M_init_63 : decode b_M_init 63 = .ok (.newarray .char, 2) := by decide +kernel
theorem d_M_init_65 : decode b_M_init 65 = .ok (.putfield 33, 3) := by decide +kernel
theorem d_M_init_68 : decode b_M_init 68 = .ok (.aload_n 0, 1) := by decide +kernel
theorem d_M_init_69 : decode b_M_init 69 = .ok (.iconst (-1), 1) := by decide +kernel
theorem d_M_init_70 : decode b_M_init 70 = .ok (.putfield 36, 3) := by decide +kernel
theorem d_M_init_73 : decode b_M_init 73 = .ok (.aload_n 0, 1) := by decide +kernel
theorem d_M_init_74 : decode b_M_init 74 = .ok (.bipush 32, 2) := by decide +kernel
theorem d_M_init_76 : decode b_M_init 76 = .ok (.newarray .int, 2) := by decide +kernel
theorem d_M_init_78 : decode b_M_init 78 = .ok (.putfield 40, 3) := by decide +kernel
theorem d_M_init_81 : decode b_M_init 81 = .ok (.aload_n 0, 1) := by decide +kernel
theorem d_M_init_82 : decode b_M_init 82 = .ok (.bipush 120, 2) := by decide +kernel
theorem d_M_init_84 : decode b_M_init 84 = .ok (.newarray .int, 2) := by decide +kernel
theorem d_M_init_86 : decode b_M_init 86 = .ok (.putfield 43, 3) := by decide +kernel
theorem d_M_init_89 : decode b_M_init 89 = .ok (.aload_n 0, 1) := by decide +kernel
theorem d_M_init_90 : decode b_M_init 90 = .ok (.bipush 120, 2) := by decide +kernel
theorem d_M_init_92 : decode b_M_init 92 = .ok (.newarray .int, 2) := by decide +kernel
theorem d_M_init_94 : decode b_M_init 94 = .ok (.putfield 46, 3) := by decide +kernel
theorem d_M_init_97 : decode b_M_init 97 = .ok (.aload_n 0, 1) := by decide +kernel
theorem d_M_init_98 : decode b_M_init 98 = .ok (.bipush 120, 2) := by decide +kernel
theorem d_M_init_100 : decode b_M_init 100 = .ok (.newarray .int, 2) := by decide +kernel
theorem d_M_init_102 : decode b_M_init 102 = .ok (.putfield 49, 3) := by decide +kernel
theorem d_M_init_105 : decode b_M_init 105 = .ok (.aload_n 0, 1) := by decide +kernel
theorem d_M_init_106 : decode b_M_init 106 = .ok (.iconst 2, 1) := by decide +kernel
theorem d_M_init_107 : decode b_M_init 107 = .ok (.newarray .int, 2) := by decide +kernel
theorem d_M_init_109 : decode b_M_init 109 = .ok (.putfield 52, 3) := by decide +kernel
theorem d_M_init_112 : decode b_M_init 112 = .ok (.aload_n 0, 1) := by decide +kernel
theorem d_M_init_113 : decode b_M_init 113 = .ok (.iconst 2, 1) := by decide +kernel
theorem d_M_init_114 : decode b_M_init 114 = .ok (.newarray .int, 2) := by decide +kernel
theorem d_M_init_116 : decode b_M_init 116 = .ok (.putfield 55, 3) := by decide +kernel
theorem d_M_init_119 : decode b_M_init 119 = .ok (.aload_n 0, 1) := by decide +kernel
theorem d_M_init_120 : decode b_M_init 120 = .ok (.iconst 2, 1) := by decide +kernel
theorem d_M_init_121 : decode b_M_init 121 = .ok (.newarray .int, 2) := by decide +kernel
theorem d_M_init_123 : decode b_M_init 123 = .ok (.putfield 58, 3) := by decide +kernel
theorem d_M_init_126 : decode b_M_init 126 = .ok (.aload_n 0, 1) := by decide +kernel
theorem d_M_init_127 : decode b_M_init 127 = .ok (.iconst 2, 1) := by decide +kernel
theorem d_M_init_128 : decode b_M_init 128 = .ok (.newarray .int, 2) := by decide +kernel
theorem d_M_init_130 : decode b_M_init 130 = .ok (.putfield 61, 3) := by decide +kernel
theorem d_M_init_133 : decode b_M_init 133 = .ok (.aload_n 0, 1) := by decide +kernel
theorem d_M_init_134 : decode b_M_init 134 = .ok (.iconst 2, 1) := by decide +kernel
theorem d_M_init_135 : decode b_M_init 135 = .ok (.newarray .int, 2) := by decide +kernel
theorem d_M_init_137 : decode b_M_init 137 = .ok (.putfield 64, 3) := by decide +kernel
theorem d_M_init_140 : decode b_M_init 140 = .ok (.aload_n 0, 1) := by decide +kernel
theorem d_M_init_141 : decode b_M_init 141 = .ok (.iconst 2, 1) := by decide +kernel
theorem d_M_init_142 : decode b_M_init 142 = .ok (.newarray .int, 2) := by decide +kernel
theorem d_M_init_144 : decode b_M_init 144 = .ok (.putfield 67, 3) := by decide +kernel
theorem d_M_init_147 : decode b_M_init 147 = .ok (.aload_n 0, 1) := by decide +kernel
theorem d_M_init_148 : decode b_M_init 148 = .ok (.bipush 120, 2) := by decide +kernel
theorem d_M_init_150 : decode b_M_init 150 = .ok (.newarray .int, 2) := by decide +kernel
theorem d_M_init_152 : decode b_M_init 152 = .ok (.putfield 70, 3) := by decide +kernel
theorem d_M_init_155 : decode b_M_init 155 = .ok (.return_, 1) := by decide +kernel
theorem d_M_thrown_0 : decode b_M_thrown 0 = .ok (.aload_n 0, 1) := by decide +kernel
theorem d_M_thrown_1 : decode b_M_thrown 1 = .ok (.getfield 73, 3) := by decide +kernel
theorem d_M_thrown_4 : decode b_M_thrown 4 = .ok (.ireturn, 1) := by decide +kernel
theorem d_M_field_0 : decode b_M_field 0 = .ok (.iload_n 1, 1) := by decide +kernel
theorem d_M_field_1 : decode b_M_field 1 = .ok (.bipush 97, 2) := by decide +kernel
theorem d_M_field_3 : decode b_M_field 3 = .ok (.if_icmp .lt 50, 3) := by decide +kernel
theorem d_M_field_6 : decode b_M_field 6 = .ok (.iload_n 1, 1) := by decide +kernel
theorem d_M_field_7 : decode b_M_field 7 = .ok (.bipush 122, 2) := by decide +kernel
theorem d_M_field_9 : decode b_M_field 9 = .ok (.if_icmp .gt 44, 3) := by decide +kernel
theorem d_M_field_12 : decode b_M_field 12 = .ok (.aload_n 0, 1) := by decide +kernel
theorem d_M_field_13 : decode b_M_field 13 = .ok (.iload_n 1, 1) := by decide +kernel
theorem d_M_field_14 : decode b_M_field 14 = .ok (.invokevirtual 79, 3) := by decide +kernel
theorem d_M_field_17 : decode b_M_field 17 = .ok (.ifCond .ge 36, 3) := by decide +kernel
theorem d_M_field_20 : decode b_M_field 20 = .ok (.iload_n 2, 1) := by decide +kernel
theorem d_M_field_21 : decode b_M_field 21 = .ok (.ifCond .lt 32, 3) := by decide +kernel
theorem d_M_field_24 : decode b_M_field 24 = .ok (.iload_n 2, 1) := by decide +kernel
theorem d_M_field_25 : decode b_M_field 25 = .ok (.bipush 23, 2) := by decide +kernel
theorem d_M_field_27 : decode b_M_field 27 = .ok (.if_icmp .gt 26, 3) := by decide +kernel
theorem d_M_field_30 : decode b_M_field 30 = .ok (.iload_n 3, 1) := by decide +kernel
theorem d_M_field_31 : decode b_M_field 31 = .ok (.iconst 1, 1) := by decide +kernel
theorem d_M_field_32 : decode b_M_field 32 = .ok (.if_icmp .lt 21, 3) := by decide +kernel
theorem d_M_field_35 : decode b_M_field 35 = .ok (.iload_n 3, 1) := by decide +kernel
theorem d_M_field_36 : decode b_M_field 36 = .ok (.bipush 10, 2) := by decide +kernel
theorem d_M_field_38 : decode b_M_field 38 = .ok (.if_icmp .gt 15, 3) := by decide +kernel
theorem d_M_field_41 : decode b_M_field 41 = .ok (.iload_n 2, 1) := by decide +kernel
theorem d_M_field_42 : decode b_M_field 42 = .ok (.iload_n 3, 1) := by decide +kernel
theorem d_M_field_43 : decode b_M_field 43 = .ok (.iadd, 1) := by decide +kernel
theorem d_M_field_44 : decode b_M_field 44 = .ok (.bipush 24, 2) := by decide +kernel
theorem d_M_field_46 : decode b_M_field 46 = .ok (.if_icmp .gt 7, 3) := by decide +kernel
theorem d_M_field_49 : decode b_M_field 49 = .ok (.iconst 1, 1) := by decide +kernel
theorem d_M_field_50 : decode b_M_field 50 = .ok (.goto 4, 3) := by decide +kernel
theorem d_M_field_53 : decode b_M_field 53 = .ok (.iconst 0, 1) := by decide +kernel
theorem d_M_field_54 : decode b_M_field 54 = .ok (.istore 5, 2) := by decide +kernel
theorem d_M_field_56 : decode b_M_field 56 = .ok (.iconst 0, 1) := by decide +kernel
theorem d_M_field_57 : decode b_M_field 57 = .ok (.istore 6, 2) := by decide +kernel
theorem d_M_field_59 : decode b_M_field 59 = .ok (.iload 6, 2) := by decide +kernel
theorem d_M_field_61 : decode b_M_field 61 = .ok (.aload_n 0, 1) := by decide +kernel
theorem d_M_field_62 : decode b_M_field 62 = .ok (.getfield 76, 3) := by decide +kernel
theorem d_M_field_65 : decode b_M_field 65 = .ok (.if_icmp .ge 53, 3) := by decide +kernel
theorem d_M_field_68 : decode b_M_field 68 = .ok (.iload 5, 2) := by decide +kernel
theorem d_M_field_70 : decode b_M_field 70 = .ok (.ifCond .eq 48, 3) := by decide +kernel
theorem d_M_field_73 : decode b_M_field 73 = .ok (.iload_n 2, 1) := by decide +kernel
theorem d_M_field_74 : decode b_M_field 74 = .ok (.iload_n 3, 1) := by decide +kernel
theorem d_M_field_75 : decode b_M_field 75 = .ok (.iadd, 1) := by decide +kernel
theorem d_M_field_76 : decode b_M_field 76 = .ok (.aload_n 0, 1) := by decide +kernel
theorem d_M_field_77 : decode b_M_field 77 = .ok (.getfield 24, 3) := by decide +kernel
theorem d_M_field_80 : decode b_M_field 80 = .ok (.iload 6, 2) := by decide +kernel
theorem d_M_field_82 : decode b_M_field 82 = .ok (.iaload, 1) := by decide +kernel
theorem d_M_field_83 : decode b_M_field 83 = .ok (.if_icmp .le 22, 3) := by decide +kernel
theorem d_M_field_86 : decode b_M_field 86 = .ok (.aload_n 0, 1) := by decide +kernel
theorem d_M_field_87 : decode b_M_field 87 = .ok (.getfield 24, 3) := by decide +kernel
theorem d_M_field_90 : decode b_M_field 90 = .ok (.iload 6, 2) := by decide +kernel
theorem d_M_field_92 : decode b_M_field 92 = .ok (.iaload, 1) := by decide +kernel
theorem d_M_field_93 : decode b_M_field 93 = .ok (.aload_n 0, 1) := by decide +kernel
theorem d_M_field_94 : decode b_M_field 94 = .ok (.getfield 27, 3) := by decide +kernel
theorem d_M_field_97 : decode b_M_field 97 = .ok (.iload 6, 2) := by decide +kernel
theorem d_M_field_99 : decode b_M_field 99 = .ok (.iaload, 1) := by decide +kernel
theorem d_M_field_100 : decode b_M_field 100 = .ok (.iadd, 1) := by decide +kernel
theorem d_M_field_101 : decode b_M_field 101 = .ok (.iload_n 2, 1) := by decide +kernel
theorem d_M_field_102 : decode b_M_field 102 = .ok (.if_icmp .gt 7, 3) := by decide +kernel
theorem d_M_field_105 : decode b_M_field 105 = .ok (.iconst 1, 1) := by decide +kernel
theorem d_M_field_106 : decode b_M_field 106 = .ok (.goto 4, 3) := by decide +kernel
theorem d_M_field_109 : decode b_M_field 109 = .ok (.iconst 0, 1) := by decide +kernel
theorem d_M_field_110 : decode b_M_field 110 = .ok (.istore 5, 2) := by decide +kernel
theorem d_M_field_112 : decode b_M_field 112 = .ok (.iinc 6 1, 3) := by decide +kernel
theorem d_M_field_115 : decode b_M_field 115 = .ok (.goto (-56), 3) := by decide +kernel
theorem d_M_field_118 : decode b_M_field 118 = .ok (.aload_n 0, 1) := by decide +kernel
theorem d_M_field_119 : decode b_M_field 119 = .ok (.iload 5, 2) := by decide +kernel
theorem d_M_field_121 : decode b_M_field 121 = .ok (.ifCond .ne 7, 3) := by decide +kernel
theorem d_M_field_124 : decode b_M_field 124 = .ok (.iconst 1, 1) := by decide +kernel
theorem d_M_field_125 : decode b_M_field 125 = .ok (.goto 17, 3) := by decide +kernel
theorem d_M_field_128 : decode b_M_field 128 = .ok (.aload_n 0, 1) := by decide +kernel
theorem d_M_field_129 : decode b_M_field 129 = .ok (.getfield 76, 3) := by decide +kernel
theorem d_M_field_132 : decode b_M_field 132 = .ok (.bipush 6, 2) := by decide +kernel
theorem d_M_field_134 : decode b_M_field 134 = .ok (.if_icmp .ne 7, 3) := by decide +kernel
theorem d_M_field_137 : decode b_M_field 137 = .ok (.iconst 2, 1) := by decide +kernel
theorem d_M_field_138 : decode b_M_field 138 = .ok (.goto 4, 3) := by decide +kernel
theorem d_M_field_141 : decode b_M_field 141 = .ok (.iconst 0, 1) := by decide +kernel
theorem d_M_field_142 : decode b_M_field 142 = .ok (.putfield 73, 3) := by decide +kernel
theorem d_M_field_145 : decode b_M_field 145 = .ok (.aload_n 0, 1) := by decide +kernel
theorem d_M_field_146 : decode b_M_field 146 = .ok (.getfield 73, 3) := by decide +kernel
theorem d_M_field_149 : decode b_M_field 149 = .ok (.ifCond .ne 54, 3) := by decide +kernel
theorem d_M_field_152 : decode b_M_field 152 = .ok (.aload_n 0, 1) := by decide +kernel
theorem d_M_field_153 : decode b_M_field 153 = .ok (.getfield 20, 3) := by decide +kernel
theorem d_M_field_156 : decode b_M_field 156 = .ok (.aload_n 0, 1) := by decide +kernel
theorem d_M_field_157 : decode b_M_field 157 = .ok (.getfield 76, 3) := by decide +kernel
theorem d_M_field_160 : decode b_M_field 160 = .ok (.iload_n 1, 1) := by decide +kernel
theorem d_M_field_161 : decode b_M_field 161 = .ok (.castore, 1) := by decide +kernel
theorem d_M_field_162 : decode b_M_field 162 = .ok (.aload_n 0, 1) := by decide +kernel
theorem d_M_field_163 : decode b_M_field 163 = .ok (.getfield 24, 3) := by decide +kernel
theorem d_M_field_166 : decode b_M_field 166 = .ok (.aload_n 0, 1) := by decide +kernel
theorem d_M_field_167 : decode b_M_field 167 = .ok (.getfield 76, 3) := by decide +kernel
theorem d_M_field_170 : decode b_M_field 170 = .ok (.iload_n 2, 1) := by decide +kernel
theorem d_M_field_171 : decode b_M_field 171 = .ok (.iastore, 1) := by decide +kernel
theorem d_M_field_172 : decode b_M_field 172 = .ok (.aload_n 0, 1) := by decide +kernel
theorem d_M_field_173 : decode b_M_field 173 = .ok (.getfield 27, 3) := by decide +kernel
theorem d_M_field_176 : decode b_M_field 176 = .ok (.aload_n 0, 1) := by decide +kernel
theorem d_M_field_177 : decode b_M_field 177 = .ok (.getfield 76, 3) := by decide +kernel
theorem d_M_field_180 : decode b_M_field 180 = .ok (.iload_n 3, 1) := by decide +kernel
theorem d_M_field_181 : decode b_M_field 181 = .ok (.iastore, 1) := by decide +kernel
theorem d_M_field_182 : decode b_M_field 182 = .ok (.aload_n 0, 1) := by decide +kernel
theorem d_M_field_183 : decode b_M_field 183 = .ok (.getfield 30, 3) := by decide +kernel
theorem d_M_field_186 : decode b_M_field 186 = .ok (.aload_n 0, 1) := by decide +kernel
theorem d_M_field_187 : decode b_M_field 187 = .ok (.getfield 76, 3) := by decide +kernel
theorem d_M_field_190 : decode b_M_field 190 = .ok (.iload 4, 2) := by decide +kernel
theorem d_M_field_192 : decode b_M_field 192 = .ok (.bastore, 1) := by decide +kernel
theorem d_M_field_193 : decode b_M_field 193 = .ok (.aload_n 0, 1) := by decide +kernel
theorem d_M_field_194 : decode b_M_field 194 = .ok (.dup, 1) := by decide +kernel
theorem d_M_field_195 : decode b_M_field 195 = .ok (.getfield 76, 3) := by decide +kernel
theorem d_M_field_198 : decode b_M_field 198 = .ok (.iconst 1, 1) := by decide +kernel
theorem d_M_field_199 : decode b_M_field 199 = .ok (.iadd, 1) := by decide +kernel
theorem d_M_field_200 : decode b_M_field 200 = .ok (.putfield 76, 3) := by decide +kernel
theorem d_M_field_203 : decode b_M_field 203 = .ok (.return_, 1) := by decide +kernel
theorem d_M_fieldOf_0 : decode b_M_fieldOf 0 = .ok (.iconst (-1), 1) := by decide +kernel
theorem d_M_fieldOf_1 : decode b_M_fieldOf 1 = .ok (.istore_n 2, 1) := by decide +kernel
theorem d_M_fieldOf_2 : decode b_M_fieldOf 2 = .ok (.iconst 0, 1) := by decide +kernel
theorem d_M_fieldOf_3 : decode b_M_fieldOf 3 = .ok (.istore_n 3, 1) := by decide +kernel
theorem d_M_fieldOf_4 : decode b_M_fieldOf 4 = .ok (.iload_n 3, 1) := by decide +kernel
theorem d_M_fieldOf_5 : decode b_M_fieldOf 5 = .ok (.aload_n 0, 1) := by decide +kernel
theorem d_M_fieldOf_6 : decode b_M_fieldOf 6 = .ok (.getfield 76, 3) := by decide +kernel
theorem d_M_fieldOf_9 : decode b_M_fieldOf 9 = .ok (.if_icmp .ge 25, 3) := by decide +kernel
theorem d_M_fieldOf_12 : decode b_M_fieldOf 12 = .ok (.aload_n 0, 1) := by decide +kernel
theorem d_M_fieldOf_13 : decode b_M_fieldOf 13 = .ok (.getfield 20, 3) := by decide +kernel
theorem d_M_fieldOf_16 : decode b_M_fieldOf 16 = .ok (.iload_n 3, 1) := by decide +kernel
theorem d_M_fieldOf_17 : decode b_M_fieldOf 17 = .ok (.caload, 1) := by decide +kernel
theorem d_M_fieldOf_18 : decode b_M_fieldOf 18 = .ok (.iload_n 1, 1) := by decide +kernel
theorem d_M_fieldOf_19 : decode b_M_fieldOf 19 = .ok (.if_icmp .ne 7, 3) := by decide +kernel
theorem d_M_fieldOf_22 : decode b_M_fieldOf 22 = .ok (.iload_n 3, 1) := by decide +kernel
theorem d_M_fieldOf_23 : decode b_M_fieldOf 23 = .ok (.goto 4, 3) := by decide +kernel
theorem d_M_fieldOf_26 : decode b_M_fieldOf 26 = .ok (.iload_n 2, 1) := by decide +kernel
theorem d_M_fieldOf_27 : decode b_M_fieldOf 27 = .ok (.istore_n 2, 1) := by decide +kernel
theorem d_M_fieldOf_28 : decode b_M_fieldOf 28 = .ok (.iinc 3 1, 3) := by decide +kernel
theorem d_M_fieldOf_31 : decode b_M_fieldOf 31 = .ok (.goto (-27), 3) := by decide +kernel
theorem d_M_fieldOf_34 : decode b_M_fieldOf 34 = .ok (.iload_n 2, 1) := by decide +kernel
theorem d_M_fieldOf_35 : decode b_M_fieldOf 35 = .ok (.ireturn, 1) := by decide +kernel
theorem d_M_insert_0 : decode b_M_insert 0 = .ok (.iconst (-1), 1) := by decide +kernel
theorem d_M_insert_1 : decode b_M_insert 1 = .ok (.istore_n 1, 1) := by decide +kernel
theorem d_M_insert_2 : decode b_M_insert 2 = .ok (.bipush 31, 2) := by decide +kernel
theorem d_M_insert_4 : decode b_M_insert 4 = .ok (.istore_n 2, 1) := by decide +kernel
theorem d_M_insert_5 : decode b_M_insert 5 = .ok (.iload_n 2, 1) := by decide +kernel
theorem d_M_insert_6 : decode b_M_insert 6 = .ok (.ifCond .lt 24, 3) := by decide +kernel
theorem d_M_insert_9 : decode b_M_insert 9 = .ok (.aload_n 0, 1) := by decide +kernel
theorem d_M_insert_10 : decode b_M_insert 10 = .ok (.getfield 7, 3) := by decide +kernel
theorem d_M_insert_13 : decode b_M_insert 13 = .ok (.iload_n 2, 1) := by decide +kernel
theorem d_M_insert_14 : decode b_M_insert 14 = .ok (.baload, 1) := by decide +kernel
theorem d_M_insert_15 : decode b_M_insert 15 = .ok (.ifCond .eq 7, 3) := by decide +kernel
theorem d_M_insert_18 : decode b_M_insert 18 = .ok (.iload_n 1, 1) := by decide +kernel
theorem d_M_insert_19 : decode b_M_insert 19 = .ok (.goto 4, 3) := by decide +kernel
theorem d_M_insert_22 : decode b_M_insert 22 = .ok (.iload_n 2, 1) := by decide +kernel
theorem d_M_insert_23 : decode b_M_insert 23 = .ok (.istore_n 1, 1) := by decide +kernel
theorem d_M_insert_24 : decode b_M_insert 24 = .ok (.iinc 2 (-1), 3) := by decide +kernel
theorem d_M_insert_27 : decode b_M_insert 27 = .ok (.goto (-22), 3) := by decide +kernel
theorem d_M_insert_30 : decode b_M_insert 30 = .ok (.aload_n 0, 1) := by decide +kernel
theorem d_M_insert_31 : decode b_M_insert 31 = .ok (.iload_n 1, 1) := by decide +kernel
theorem d_M_insert_32 : decode b_M_insert 32 = .ok (.ifCond .ge 7, 3) := by decide +kernel
theorem d_M_insert_35 : decode b_M_insert 35 = .ok (.iconst 1, 1) := by decide +kernel
theorem d_M_insert_36 : decode b_M_insert 36 = .ok (.goto 4, 3) := by decide +kernel
theorem d_M_insert_39 : decode b_M_insert 39 = .ok (.iconst 0, 1) := by decide +kernel
theorem d_M_insert_40 : decode b_M_insert 40 = .ok (.putfield 73, 3) := by decide +kernel
theorem d_M_insert_43 : decode b_M_insert 43 = .ok (.aload_n 0, 1) := by decide +kernel
theorem d_M_insert_44 : decode b_M_insert 44 = .ok (.getfield 73, 3) := by decide +kernel
theorem d_M_insert_47 : decode b_M_insert 47 = .ok (.ifCond .le 5, 3) := by decide +kernel
theorem d_M_insert_50 : decode b_M_insert 50 = .ok (.iconst 0, 1) := by decide +kernel
theorem d_M_insert_51 : decode b_M_insert 51 = .ok (.ireturn, 1) := by decide +kernel
theorem d_M_insert_52 : decode b_M_insert 52 = .ok (.aload_n 0, 1) := by decide +kernel
theorem d_M_insert_53 : decode b_M_insert 53 = .ok (.getfield 7, 3) := by decide +kernel
theorem d_M_insert_56 : decode b_M_insert 56 = .ok (.iload_n 1, 1) := by decide +kernel
theorem d_M_insert_57 : decode b_M_insert 57 = .ok (.iconst 1, 1) := by decide +kernel
theorem d_M_insert_58 : decode b_M_insert 58 = .ok (.bastore, 1) := by decide +kernel
theorem d_M_insert_59 : decode b_M_insert 59 = .ok (.aload_n 0, 1) := by decide +kernel
theorem d_M_insert_60 : decode b_M_insert 60 = .ok (.getfield 13, 3) := by decide +kernel
theorem d_M_insert_63 : decode b_M_insert 63 = .ok (.iload_n 1, 1) := by decide +kernel
theorem d_M_insert_64 : decode b_M_insert 64 = .ok (.iconst 0, 1) := by decide +kernel
theorem d_M_insert_65 : decode b_M_insert 65 = .ok (.iastore, 1) := by decide +kernel
theorem d_M_insert_66 : decode b_M_insert 66 = .ok (.aload_n 0, 1) := by decide +kernel
theorem d_M_insert_67 : decode b_M_insert 67 = .ok (.getfield 17, 3) := by decide +kernel
theorem d_M_insert_70 : decode b_M_insert 70 = .ok (.iload_n 1, 1) := by decide +kernel
theorem d_M_insert_71 : decode b_M_insert 71 = .ok (.iconst 0, 1) := by decide +kernel
theorem d_M_insert_72 : decode b_M_insert 72 = .ok (.bastore, 1) := by decide +kernel
theorem d_M_insert_73 : decode b_M_insert 73 = .ok (.iload_n 1, 1) := by decide +kernel
theorem d_M_insert_74 : decode b_M_insert 74 = .ok (.ireturn, 1) := by decide +kernel
theorem d_M_remove_0 : decode b_M_remove 0 = .ok (.aload_n 0, 1) := by decide +kernel
theorem d_M_remove_1 : decode b_M_remove 1 = .ok (.iload_n 1, 1) := by decide +kernel
theorem d_M_remove_2 : decode b_M_remove 2 = .ok (.invokestatic 83, 3) := by decide +kernel
theorem d_M_remove_5 : decode b_M_remove 5 = .ok (.ifCond .ne 7, 3) := by decide +kernel
theorem d_M_remove_8 : decode b_M_remove 8 = .ok (.iconst 1, 1) := by decide +kernel
theorem d_M_remove_9 : decode b_M_remove 9 = .ok (.goto 17, 3) := by decide +kernel
theorem d_M_remove_12 : decode b_M_remove 12 = .ok (.aload_n 0, 1) := by decide +kernel
theorem d_M_remove_13 : decode b_M_remove 13 = .ok (.getfield 7, 3) := by decide +kernel
theorem d_M_remove_16 : decode b_M_remove 16 = .ok (.iload_n 1, 1) := by decide +kernel
theorem d_M_remove_17 : decode b_M_remove 17 = .ok (.baload, 1) := by decide +kernel
theorem d_M_remove_18 : decode b_M_remove 18 = .ok (.ifCond .ne 7, 3) := by decide +kernel
theorem d_M_remove_21 : decode b_M_remove 21 = .ok (.iconst 2, 1) := by decide +kernel
theorem d_M_remove_22 : decode b_M_remove 22 = .ok (.goto 4, 3) := by decide +kernel
theorem d_M_remove_25 : decode b_M_remove 25 = .ok (.iconst 0, 1) := by decide +kernel
theorem d_M_remove_26 : decode b_M_remove 26 = .ok (.putfield 73, 3) := by decide +kernel
theorem d_M_remove_29 : decode b_M_remove 29 = .ok (.aload_n 0, 1) := by decide +kernel
theorem d_M_remove_30 : decode b_M_remove 30 = .ok (.getfield 73, 3) := by decide +kernel
theorem d_M_remove_33 : decode b_M_remove 33 = .ok (.ifCond .ne 24, 3) := by decide +kernel
theorem d_M_remove_36 : decode b_M_remove 36 = .ok (.aload_n 0, 1) := by decide +kernel
theorem d_M_remove_37 : decode b_M_remove 37 = .ok (.getfield 7, 3) := by decide +kernel
theorem d_M_remove_40 : decode b_M_remove 40 = .ok (.iload_n 1, 1) := by decide +kernel
theorem d_M_remove_41 : decode b_M_remove 41 = .ok (.iconst 0, 1) := by decide +kernel
theorem d_M_remove_42 : decode b_M_remove 42 = .ok (.bastore, 1) := by decide +kernel
theorem d_M_remove_43 : decode b_M_remove 43 = .ok (.aload_n 0, 1) := by decide +kernel
theorem d_M_remove_44 : decode b_M_remove 44 = .ok (.getfield 13, 3) := by decide +kernel
theorem d_M_remove_47 : decode b_M_remove 47 = .ok (.iload_n 1, 1) := by decide +kernel
theorem d_M_remove_48 : decode b_M_remove 48 = .ok (.iconst 0, 1) := by decide +kernel
theorem d_M_remove_49 : decode b_M_remove 49 = .ok (.iastore, 1) := by decide +kernel
theorem d_M_remove_50 : decode b_M_remove 50 = .ok (.aload_n 0, 1) := by decide +kernel
theorem d_M_remove_51 : decode b_M_remove 51 = .ok (.getfield 17, 3) := by decide +kernel
theorem d_M_remove_54 : decode b_M_remove 54 = .ok (.iload_n 1, 1) := by decide +kernel
theorem d_M_remove_55 : decode b_M_remove 55 = .ok (.iconst 0, 1) := by decide +kernel
theorem d_M_remove_56 : decode b_M_remove 56 = .ok (.bastore, 1) := by decide +kernel
theorem d_M_remove_57 : decode b_M_remove 57 = .ok (.return_, 1) := by decide +kernel
theorem d_M_isWord_0 : decode b_M_isWord 0 = .ok (.iload_n 0, 1) := by decide +kernel
theorem d_M_isWord_1 : decode b_M_isWord 1 = .ok (.ifCond .lt 13, 3) := by decide +kernel
theorem d_M_isWord_4 : decode b_M_isWord 4 = .ok (.iload_n 0, 1) := by decide +kernel
theorem d_M_isWord_5 : decode b_M_isWord 5 = .ok (.bipush 31, 2) := by decide +kernel
theorem d_M_isWord_7 : decode b_M_isWord 7 = .ok (.if_icmp .gt 7, 3) := by decide +kernel
theorem d_M_isWord_10 : decode b_M_isWord 10 = .ok (.iconst 1, 1) := by decide +kernel
theorem d_M_isWord_11 : decode b_M_isWord 11 = .ok (.goto 4, 3) := by decide +kernel
theorem d_M_isWord_14 : decode b_M_isWord 14 = .ok (.iconst 0, 1) := by decide +kernel
theorem d_M_isWord_15 : decode b_M_isWord 15 = .ok (.ireturn, 1) := by decide +kernel
theorem d_M_put_0 : decode b_M_put 0 = .ok (.aload_n 0, 1) := by decide +kernel
theorem d_M_put_1 : decode b_M_put 1 = .ok (.iload_n 2, 1) := by decide +kernel
theorem d_M_put_2 : decode b_M_put 2 = .ok (.invokevirtual 79, 3) := by decide +kernel
theorem d_M_put_5 : decode b_M_put 5 = .ok (.istore 4, 2) := by decide +kernel
theorem d_M_put_7 : decode b_M_put 7 = .ok (.aload_n 0, 1) := by decide +kernel
theorem d_M_put_8 : decode b_M_put 8 = .ok (.iload_n 1, 1) := by decide +kernel
theorem d_M_put_9 : decode b_M_put 9 = .ok (.invokestatic 83, 3) := by decide +kernel
theorem d_M_put_12 : decode b_M_put 12 = .ok (.ifCond .eq 8, 3) := by decide +kernel
theorem d_M_put_15 : decode b_M_put 15 = .ok (.iload 4, 2) := by decide +kernel
theorem d_M_put_17 : decode b_M_put 17 = .ok (.ifCond .ge 7, 3) := by decide +kernel
theorem d_M_put_20 : decode b_M_put 20 = .ok (.iconst 1, 1) := by decide +kernel
theorem d_M_put_21 : decode b_M_put 21 = .ok (.goto 31, 3) := by decide +kernel
theorem d_M_put_24 : decode b_M_put 24 = .ok (.aload_n 0, 1) := by decide +kernel
theorem d_M_put_25 : decode b_M_put 25 = .ok (.getfield 7, 3) := by decide +kernel
theorem d_M_put_28 : decode b_M_put 28 = .ok (.iload_n 1, 1) := by decide +kernel
theorem d_M_put_29 : decode b_M_put 29 = .ok (.baload, 1) := by decide +kernel
theorem d_M_put_30 : decode b_M_put 30 = .ok (.ifCond .ne 7, 3) := by decide +kernel
theorem d_M_put_33 : decode b_M_put 33 = .ok (.iconst 2, 1) := by decide +kernel
theorem d_M_put_34 : decode b_M_put 34 = .ok (.goto 18, 3) := by decide +kernel
theorem d_M_put_37 : decode b_M_put 37 = .ok (.aload_n 0, 1) := by decide +kernel
theorem d_M_put_38 : decode b_M_put 38 = .ok (.iload 4, 2) := by decide +kernel
theorem d_M_put_40 : decode b_M_put 40 = .ok (.iload_n 3, 1) := by decide +kernel
theorem d_M_put_41 : decode b_M_put 41 = .ok (.invokevirtual 87, 3) := by decide +kernel
theorem d_M_put_44 : decode b_M_put 44 = .ok (.ifCond .ne 7, 3) := by decide +kernel
theorem d_M_put_47 : decode b_M_put 47 = .ok (.iconst 3, 1) := by decide +kernel
theorem d_M_put_48 : decode b_M_put 48 = .ok (.goto 4, 3) := by decide +kernel
theorem d_M_put_51 : decode b_M_put 51 = .ok (.iconst 0, 1) := by decide +kernel
theorem d_M_put_52 : decode b_M_put 52 = .ok (.putfield 73, 3) := by decide +kernel
theorem d_M_put_55 : decode b_M_put 55 = .ok (.aload_n 0, 1) := by decide +kernel
theorem d_M_put_56 : decode b_M_put 56 = .ok (.getfield 73, 3) := by decide +kernel
theorem d_M_put_59 : decode b_M_put 59 = .ok (.ifCond .ne 11, 3) := by decide +kernel
theorem d_M_put_62 : decode b_M_put 62 = .ok (.aload_n 0, 1) := by decide +kernel
theorem d_M_put_63 : decode b_M_put 63 = .ok (.iload_n 1, 1) := by decide +kernel
theorem d_M_put_64 : decode b_M_put 64 = .ok (.iload 4, 2) := by decide +kernel
theorem d_M_put_66 : decode b_M_put 66 = .ok (.iload_n 3, 1) := by decide +kernel
theorem d_M_put_67 : decode b_M_put 67 = .ok (.invokevirtual 91, 3) := by decide +kernel
theorem d_M_put_70 : decode b_M_put 70 = .ok (.return_, 1) := by decide +kernel
theorem d_M_fits_0 : decode b_M_fits 0 = .ok (.iconst 1, 1) := by decide +kernel
theorem d_M_fits_1 : decode b_M_fits 1 = .ok (.aload_n 0, 1) := by decide +kernel
theorem d_M_fits_2 : decode b_M_fits 2 = .ok (.getfield 27, 3) := by decide +kernel
theorem d_M_fits_5 : decode b_M_fits 5 = .ok (.iload_n 1, 1) := by decide +kernel
theorem d_M_fits_6 : decode b_M_fits 6 = .ok (.iaload, 1) := by decide +kernel
theorem d_M_fits_7 : decode b_M_fits 7 = .ok (.ishl, 1) := by decide +kernel
theorem d_M_fits_8 : decode b_M_fits 8 = .ok (.istore_n 3, 1) := by decide +kernel
theorem d_M_fits_9 : decode b_M_fits 9 = .ok (.aload_n 0, 1) := by decide +kernel
theorem d_M_fits_10 : decode b_M_fits 10 = .ok (.getfield 30, 3) := by decide +kernel
theorem d_M_fits_13 : decode b_M_fits 13 = .ok (.iload_n 1, 1) := by decide +kernel
theorem d_M_fits_14 : decode b_M_fits 14 = .ok (.baload, 1) := by decide +kernel
theorem d_M_fits_15 : decode b_M_fits 15 = .ok (.ifCond .eq 26, 3) := by decide +kernel
theorem d_M_fits_18 : decode b_M_fits 18 = .ok (.iload_n 2, 1) := by decide +kernel
theorem d_M_fits_19 : decode b_M_fits 19 = .ok (.iload_n 3, 1) := by decide +kernel
theorem d_M_fits_20 : decode b_M_fits 20 = .ok (.ineg, 1) := by decide +kernel
theorem d_M_fits_21 : decode b_M_fits 21 = .ok (.iconst 2, 1) := by decide +kernel
theorem d_M_fits_22 : decode b_M_fits 22 = .ok (.idiv, 1) := by decide +kernel
theorem d_M_fits_23 : decode b_M_fits 23 = .ok (.if_icmp .lt 14, 3) := by decide +kernel
theorem d_M_fits_26 : decode b_M_fits 26 = .ok (.iload_n 2, 1) := by decide +kernel
theorem d_M_fits_27 : decode b_M_fits 27 = .ok (.iload_n 3, 1) := by decide +kernel
theorem d_M_fits_28 : decode b_M_fits 28 = .ok (.iconst 2, 1) := by decide +kernel
theorem d_M_fits_29 : decode b_M_fits 29 = .ok (.idiv, 1) := by decide +kernel
theorem d_M_fits_30 : decode b_M_fits 30 = .ok (.if_icmp .ge 7, 3) := by decide +kernel
theorem d_M_fits_33 : decode b_M_fits 33 = .ok (.iconst 1, 1) := by decide +kernel
theorem d_M_fits_34 : decode b_M_fits 34 = .ok (.goto 21, 3) := by decide +kernel
theorem d_M_fits_37 : decode b_M_fits 37 = .ok (.iconst 0, 1) := by decide +kernel
theorem d_M_fits_38 : decode b_M_fits 38 = .ok (.goto 17, 3) := by decide +kernel
theorem d_M_fits_41 : decode b_M_fits 41 = .ok (.iload_n 2, 1) := by decide +kernel
theorem d_M_fits_42 : decode b_M_fits 42 = .ok (.ifCond .lt 12, 3) := by decide +kernel
theorem d_M_fits_45 : decode b_M_fits 45 = .ok (.iload_n 2, 1) := by decide +kernel
theorem d_M_fits_46 : decode b_M_fits 46 = .ok (.iload_n 3, 1) := by decide +kernel
theorem d_M_fits_47 : decode b_M_fits 47 = .ok (.if_icmp .ge 7, 3) := by decide +kernel
theorem d_M_fits_50 : decode b_M_fits 50 = .ok (.iconst 1, 1) := by decide +kernel
theorem d_M_fits_51 : decode b_M_fits 51 = .ok (.goto 4, 3) := by decide +kernel
theorem d_M_fits_54 : decode b_M_fits 54 = .ok (.iconst 0, 1) := by decide +kernel
theorem d_M_fits_55 : decode b_M_fits 55 = .ok (.ireturn, 1) := by decide +kernel
theorem d_M_setValue_0 : decode b_M_setValue 0 = .ok (.iconst 1, 1) := by decide +kernel
theorem d_M_setValue_1 : decode b_M_setValue 1 = .ok (.aload_n 0, 1) := by decide +kernel
theorem d_M_setValue_2 : decode b_M_setValue 2 = .ok (.getfield 27, 3) := by decide +kernel
theorem d_M_setValue_5 : decode b_M_setValue 5 = .ok (.iload_n 2, 1) := by decide +kernel
theorem d_M_setValue_6 : decode b_M_setValue 6 = .ok (.iaload, 1) := by decide +kernel
theorem d_M_setValue_7 : decode b_M_setValue 7 = .ok (.ishl, 1) := by decide +kernel
theorem d_M_setValue_8 : decode b_M_setValue 8 = .ok (.iconst 1, 1) := by decide +kernel
theorem d_M_setValue_9 : decode b_M_setValue 9 = .ok (.isub, 1) := by decide +kernel
theorem d_M_setValue_10 : decode b_M_setValue 10 = .ok (.istore 4, 2) := by decide +kernel
theorem d_M_setValue_12 : decode b_M_setValue 12 = .ok (.aload_n 0, 1) := by decide +kernel
theorem d_M_setValue_13 : decode b_M_setValue 13 = .ok (.getfield 13, 3) := by decide +kernel
theorem d_M_setValue_16 : decode b_M_setValue 16 = .ok (.iload_n 1, 1) := by decide +kernel
theorem d_M_setValue_17 : decode b_M_setValue 17 = .ok (.aload_n 0, 1) := by decide +kernel
theorem d_M_setValue_18 : decode b_M_setValue 18 = .ok (.getfield 13, 3) := by decide +kernel
theorem d_M_setValue_21 : decode b_M_setValue 21 = .ok (.iload_n 1, 1) := by decide +kernel
theorem d_M_setValue_22 : decode b_M_setValue 22 = .ok (.iaload, 1) := by decide +kernel
theorem d_M_setValue_23 : decode b_M_setValue 23 = .ok (.iload 4, 2) := by decide +kernel
theorem d_M_setValue_25 : decode b_M_setValue 25 = .ok (.aload_n 0, 1) := by decide +kernel
theorem d_M_setValue_26 : decode b_M_setValue 26 = .ok (.getfield 24, 3) := by decide +kernel
theorem d_M_setValue_29 : decode b_M_setValue 29 = .ok (.iload_n 2, 1) := by decide +kernel
theorem d_M_setValue_30 : decode b_M_setValue 30 = .ok (.iaload, 1) := by decide +kernel
theorem d_M_setValue_31 : decode b_M_setValue 31 = .ok (.ishl, 1) := by decide +kernel
theorem d_M_setValue_32 : decode b_M_setValue 32 = .ok (.iconst (-1), 1) := by decide +kernel
theorem d_M_setValue_33 : decode b_M_setValue 33 = .ok (.ixor, 1) := by decide +kernel
theorem d_M_setValue_34 : decode b_M_setValue 34 = .ok (.iand, 1) := by decide +kernel
theorem d_M_setValue_35 : decode b_M_setValue 35 = .ok (.iload_n 3, 1) := by decide +kernel
theorem d_M_setValue_36 : decode b_M_setValue 36 = .ok (.iload 4, 2) := by decide +kernel
theorem d_M_setValue_38 : decode b_M_setValue 38 = .ok (.iand, 1) := by decide +kernel
theorem d_M_setValue_39 : decode b_M_setValue 39 = .ok (.aload_n 0, 1) := by decide +kernel
theorem d_M_setValue_40 : decode b_M_setValue 40 = .ok (.getfield 24, 3) := by decide +kernel
theorem d_M_setValue_43 : decode b_M_setValue 43 = .ok (.iload_n 2, 1) := by decide +kernel
theorem d_M_setValue_44 : decode b_M_setValue 44 = .ok (.iaload, 1) := by decide +kernel
theorem d_M_setValue_45 : decode b_M_setValue 45 = .ok (.ishl, 1) := by decide +kernel
theorem d_M_setValue_46 : decode b_M_setValue 46 = .ok (.ior, 1) := by decide +kernel
theorem d_M_setValue_47 : decode b_M_setValue 47 = .ok (.iastore, 1) := by decide +kernel
theorem d_M_setValue_48 : decode b_M_setValue 48 = .ok (.return_, 1) := by decide +kernel
theorem d_M_get_0 : decode b_M_get 0 = .ok (.aload_n 0, 1) := by decide +kernel
theorem d_M_get_1 : decode b_M_get 1 = .ok (.iload_n 2, 1) := by decide +kernel
theorem d_M_get_2 : decode b_M_get 2 = .ok (.invokevirtual 79, 3) := by decide +kernel
theorem d_M_get_5 : decode b_M_get 5 = .ok (.istore_n 3, 1) := by decide +kernel
theorem d_M_get_6 : decode b_M_get 6 = .ok (.aload_n 0, 1) := by decide +kernel
theorem d_M_get_7 : decode b_M_get 7 = .ok (.iload_n 1, 1) := by decide +kernel
theorem d_M_get_8 : decode b_M_get 8 = .ok (.invokestatic 83, 3) := by decide +kernel
theorem d_M_get_11 : decode b_M_get 11 = .ok (.ifCond .eq 7, 3) := by decide +kernel
theorem d_M_get_14 : decode b_M_get 14 = .ok (.iload_n 3, 1) := by decide +kernel
theorem d_M_get_15 : decode b_M_get 15 = .ok (.ifCond .ge 7, 3) := by decide +kernel
theorem d_M_get_18 : decode b_M_get 18 = .ok (.iconst 1, 1) := by decide +kernel
theorem d_M_get_19 : decode b_M_get 19 = .ok (.goto 17, 3) := by decide +kernel
theorem d_M_get_22 : decode b_M_get 22 = .ok (.aload_n 0, 1) := by decide +kernel
theorem d_M_get_23 : decode b_M_get 23 = .ok (.getfield 7, 3) := by decide +kernel
theorem d_M_get_26 : decode b_M_get 26 = .ok (.iload_n 1, 1) := by decide +kernel
theorem d_M_get_27 : decode b_M_get 27 = .ok (.baload, 1) := by decide +kernel
theorem d_M_get_28 : decode b_M_get 28 = .ok (.ifCond .ne 7, 3) := by decide +kernel
theorem d_M_get_31 : decode b_M_get 31 = .ok (.iconst 2, 1) := by decide +kernel
theorem d_M_get_32 : decode b_M_get 32 = .ok (.goto 4, 3) := by decide +kernel
theorem d_M_get_35 : decode b_M_get 35 = .ok (.iconst 0, 1) := by decide +kernel
theorem d_M_get_36 : decode b_M_get 36 = .ok (.putfield 73, 3) := by decide +kernel
theorem d_M_get_39 : decode b_M_get 39 = .ok (.aload_n 0, 1) := by decide +kernel
theorem d_M_get_40 : decode b_M_get 40 = .ok (.getfield 73, 3) := by decide +kernel
theorem d_M_get_43 : decode b_M_get 43 = .ok (.ifCond .ne 12, 3) := by decide +kernel
theorem d_M_get_46 : decode b_M_get 46 = .ok (.aload_n 0, 1) := by decide +kernel
theorem d_M_get_47 : decode b_M_get 47 = .ok (.iload_n 1, 1) := by decide +kernel
theorem d_M_get_48 : decode b_M_get 48 = .ok (.iload_n 3, 1) := by decide +kernel
theorem d_M_get_49 : decode b_M_get 49 = .ok (.invokevirtual 95, 3) := by decide +kernel
theorem d_M_get_52 : decode b_M_get 52 = .ok (.goto 4, 3) := by decide +kernel
theorem d_M_get_55 : decode b_M_get 55 = .ok (.iconst 0, 1) := by decide +kernel
theorem d_M_get_56 : decode b_M_get 56 = .ok (.ireturn, 1) := by decide +kernel
theorem d_M_valueOf_0 : decode b_M_valueOf 0 = .ok (.iconst 0, 1) := by decide +kernel
theorem d_M_valueOf_1 : decode b_M_valueOf 1 = .ok (.istore_n 3, 1) := by decide +kernel
theorem d_M_valueOf_2 : decode b_M_valueOf 2 = .ok (.iconst 1, 1) := by decide +kernel
theorem d_M_valueOf_3 : decode b_M_valueOf 3 = .ok (.istore 4, 2) := by decide +kernel
theorem d_M_valueOf_5 : decode b_M_valueOf 5 = .ok (.iconst 0, 1) := by decide +kernel
theorem d_M_valueOf_6 : decode b_M_valueOf 6 = .ok (.istore 5, 2) := by decide +kernel
theorem d_M_valueOf_8 : decode b_M_valueOf 8 = .ok (.iload 5, 2) := by decide +kernel
theorem d_M_valueOf_10 : decode b_M_valueOf 10 = .ok (.aload_n 0, 1) := by decide +kernel
theorem d_M_valueOf_11 : decode b_M_valueOf 11 = .ok (.getfield 27, 3) := by decide +kernel
theorem d_M_valueOf_14 : decode b_M_valueOf 14 = .ok (.iload_n 2, 1) := by decide +kernel
theorem d_M_valueOf_15 : decode b_M_valueOf 15 = .ok (.iaload, 1) := by decide +kernel
theorem d_M_valueOf_16 : decode b_M_valueOf 16 = .ok (.if_icmp .ge 79, 3) := by decide +kernel
theorem d_M_valueOf_19 : decode b_M_valueOf 19 = .ok (.aload_n 0, 1) := by decide +kernel
theorem d_M_valueOf_20 : decode b_M_valueOf 20 = .ok (.getfield 30, 3) := by decide +kernel
theorem d_M_valueOf_23 : decode b_M_valueOf 23 = .ok (.iload_n 2, 1) := by decide +kernel
theorem d_M_valueOf_24 : decode b_M_valueOf 24 = .ok (.baload, 1) := by decide +kernel
theorem d_M_valueOf_25 : decode b_M_valueOf 25 = .ok (.ifCond .eq 20, 3) := by decide +kernel
theorem d_M_valueOf_28 : decode b_M_valueOf 28 = .ok (.iload 5, 2) := by decide +kernel
theorem d_M_valueOf_30 : decode b_M_valueOf 30 = .ok (.aload_n 0, 1) := by decide +kernel
theorem d_M_valueOf_31 : decode b_M_valueOf 31 = .ok (.getfield 27, 3) := by decide +kernel
theorem d_M_valueOf_34 : decode b_M_valueOf 34 = .ok (.iload_n 2, 1) := by decide +kernel
theorem d_M_valueOf_35 : decode b_M_valueOf 35 = .ok (.iaload, 1) := by decide +kernel
theorem d_M_valueOf_36 : decode b_M_valueOf 36 = .ok (.iconst 1, 1) := by decide +kernel
theorem d_M_valueOf_37 : decode b_M_valueOf 37 = .ok (.isub, 1) := by decide +kernel
theorem d_M_valueOf_38 : decode b_M_valueOf 38 = .ok (.if_icmp .ne 7, 3) := by decide +kernel
theorem d_M_valueOf_41 : decode b_M_valueOf 41 = .ok (.iconst 1, 1) := by decide +kernel
theorem d_M_valueOf_42 : decode b_M_valueOf 42 = .ok (.goto 4, 3) := by decide +kernel
theorem d_M_valueOf_45 : decode b_M_valueOf 45 = .ok (.iconst 0, 1) := by decide +kernel
theorem d_M_valueOf_46 : decode b_M_valueOf 46 = .ok (.istore 6, 2) := by decide +kernel
theorem d_M_valueOf_48 : decode b_M_valueOf 48 = .ok (.iload_n 3, 1) := by decide +kernel
theorem d_M_valueOf_49 : decode b_M_valueOf 49 = .ok (.aload_n 0, 1) := by decide +kernel
theorem d_M_valueOf_50 : decode b_M_valueOf 50 = .ok (.getfield 13, 3) := by decide +kernel
theorem d_M_valueOf_53 : decode b_M_valueOf 53 = .ok (.iload_n 1, 1) := by decide +kernel
theorem d_M_valueOf_54 : decode b_M_valueOf 54 = .ok (.iaload, 1) := by decide +kernel
theorem d_M_valueOf_55 : decode b_M_valueOf 55 = .ok (.aload_n 0, 1) := by decide +kernel
theorem d_M_valueOf_56 : decode b_M_valueOf 56 = .ok (.getfield 24, 3) := by decide +kernel
theorem d_M_valueOf_59 : decode b_M_valueOf 59 = .ok (.iload_n 2, 1) := by decide +kernel
theorem d_M_valueOf_60 : decode b_M_valueOf 60 = .ok (.iaload, 1) := by decide +kernel
theorem d_M_valueOf_61 : decode b_M_valueOf 61 = .ok (.iload 5, 2) := by decide +kernel
theorem d_M_valueOf_63 : decode b_M_valueOf 63 = .ok (.iadd, 1) := by decide +kernel
theorem d_M_valueOf_64 : decode b_M_valueOf 64 = .ok (.ishr, 1) := by decide +kernel
theorem d_M_valueOf_65 : decode b_M_valueOf 65 = .ok (.iconst 1, 1) := by decide +kernel
theorem d_M_valueOf_66 : decode b_M_valueOf 66 = .ok (.iand, 1) := by decide +kernel
theorem d_M_valueOf_67 : decode b_M_valueOf 67 = .ok (.iload 6, 2) := by decide +kernel
theorem d_M_valueOf_69 : decode b_M_valueOf 69 = .ok (.ifCond .eq 9, 3) := by decide +kernel
theorem d_M_valueOf_72 : decode b_M_valueOf 72 = .ok (.iload 4, 2) := by decide +kernel
theorem d_M_valueOf_74 : decode b_M_valueOf 74 = .ok (.ineg, 1) := by decide +kernel
theorem d_M_valueOf_75 : decode b_M_valueOf 75 = .ok (.goto 5, 3) := by decide +kernel
theorem d_M_valueOf_78 : decode b_M_valueOf 78 = .ok (.iload 4, 2) := by decide +kernel
theorem d_M_valueOf_80 : decode b_M_valueOf 80 = .ok (.imul, 1) := by decide +kernel
theorem d_M_valueOf_81 : decode b_M_valueOf 81 = .ok (.iadd, 1) := by decide +kernel
theorem d_M_valueOf_82 : decode b_M_valueOf 82 = .ok (.istore_n 3, 1) := by decide +kernel
theorem d_M_valueOf_83 : decode b_M_valueOf 83 = .ok (.iconst 2, 1) := by decide +kernel
theorem d_M_valueOf_84 : decode b_M_valueOf 84 = .ok (.iload 4, 2) := by decide +kernel
theorem d_M_valueOf_86 : decode b_M_valueOf 86 = .ok (.imul, 1) := by decide +kernel
theorem d_M_valueOf_87 : decode b_M_valueOf 87 = .ok (.istore 4, 2) := by decide +kernel
theorem d_M_valueOf_89 : decode b_M_valueOf 89 = .ok (.iinc 5 1, 3) := by decide +kernel
theorem d_M_valueOf_92 : decode b_M_valueOf 92 = .ok (.goto (-84), 3) := by decide +kernel
theorem d_M_valueOf_95 : decode b_M_valueOf 95 = .ok (.iload_n 3, 1) := by decide +kernel
theorem d_M_valueOf_96 : decode b_M_valueOf 96 = .ok (.ireturn, 1) := by decide +kernel
theorem d_M_bit_0 : decode b_M_bit 0 = .ok (.aload_n 0, 1) := by decide +kernel
theorem d_M_bit_1 : decode b_M_bit 1 = .ok (.iload_n 1, 1) := by decide +kernel
theorem d_M_bit_2 : decode b_M_bit 2 = .ok (.invokestatic 83, 3) := by decide +kernel
theorem d_M_bit_5 : decode b_M_bit 5 = .ok (.ifCond .eq 14, 3) := by decide +kernel
theorem d_M_bit_8 : decode b_M_bit 8 = .ok (.iload_n 2, 1) := by decide +kernel
theorem d_M_bit_9 : decode b_M_bit 9 = .ok (.invokestatic 83, 3) := by decide +kernel
theorem d_M_bit_12 : decode b_M_bit 12 = .ok (.ifCond .eq 7, 3) := by decide +kernel
theorem d_M_bit_15 : decode b_M_bit 15 = .ok (.iconst 0, 1) := by decide +kernel
theorem d_M_bit_16 : decode b_M_bit 16 = .ok (.goto 4, 3) := by decide +kernel
theorem d_M_bit_19 : decode b_M_bit 19 = .ok (.iconst 1, 1) := by decide +kernel
theorem d_M_bit_20 : decode b_M_bit 20 = .ok (.putfield 73, 3) := by decide +kernel
theorem d_M_bit_23 : decode b_M_bit 23 = .ok (.aload_n 0, 1) := by decide +kernel
theorem d_M_bit_24 : decode b_M_bit 24 = .ok (.getfield 73, 3) := by decide +kernel
theorem d_M_bit_27 : decode b_M_bit 27 = .ok (.ifCond .ne 21, 3) := by decide +kernel
theorem d_M_bit_30 : decode b_M_bit 30 = .ok (.aload_n 0, 1) := by decide +kernel
theorem d_M_bit_31 : decode b_M_bit 31 = .ok (.getfield 13, 3) := by decide +kernel
theorem d_M_bit_34 : decode b_M_bit 34 = .ok (.iload_n 1, 1) := by decide +kernel
theorem d_M_bit_35 : decode b_M_bit 35 = .ok (.iaload, 1) := by decide +kernel
theorem d_M_bit_36 : decode b_M_bit 36 = .ok (.iload_n 2, 1) := by decide +kernel
theorem d_M_bit_37 : decode b_M_bit 37 = .ok (.ishr, 1) := by decide +kernel
theorem d_M_bit_38 : decode b_M_bit 38 = .ok (.iconst 1, 1) := by decide +kernel
theorem d_M_bit_39 : decode b_M_bit 39 = .ok (.iand, 1) := by decide +kernel
theorem d_M_bit_40 : decode b_M_bit 40 = .ok (.iconst 1, 1) := by decide +kernel
theorem d_M_bit_41 : decode b_M_bit 41 = .ok (.if_icmp .ne 7, 3) := by decide +kernel
theorem d_M_bit_44 : decode b_M_bit 44 = .ok (.iconst 1, 1) := by decide +kernel
theorem d_M_bit_45 : decode b_M_bit 45 = .ok (.goto 4, 3) := by decide +kernel
theorem d_M_bit_48 : decode b_M_bit 48 = .ok (.iconst 0, 1) := by decide +kernel
theorem d_M_bit_49 : decode b_M_bit 49 = .ok (.ireturn, 1) := by decide +kernel
theorem d_M_search_0 : decode b_M_search 0 = .ok (.aload_n 0, 1) := by decide +kernel
theorem d_M_search_1 : decode b_M_search 1 = .ok (.iconst 0, 1) := by decide +kernel
theorem d_M_search_2 : decode b_M_search 2 = .ok (.putfield 73, 3) := by decide +kernel
theorem d_M_search_5 : decode b_M_search 5 = .ok (.iconst 0, 1) := by decide +kernel
theorem d_M_search_6 : decode b_M_search 6 = .ok (.istore 4, 2) := by decide +kernel
theorem d_M_search_8 : decode b_M_search 8 = .ok (.iconst 0, 1) := by decide +kernel
theorem d_M_search_9 : decode b_M_search 9 = .ok (.istore 5, 2) := by decide +kernel
theorem d_M_search_11 : decode b_M_search 11 = .ok (.iload 5, 2) := by decide +kernel
theorem d_M_search_13 : decode b_M_search 13 = .ok (.bipush 32, 2) := by decide +kernel
theorem d_M_search_15 : decode b_M_search 15 = .ok (.if_icmp .ge 79, 3) := by decide +kernel
theorem d_M_search_18 : decode b_M_search 18 = .ok (.aload_n 0, 1) := by decide +kernel
theorem d_M_search_19 : decode b_M_search 19 = .ok (.getfield 17, 3) := by decide +kernel
theorem d_M_search_22 : decode b_M_search 22 = .ok (.iload 5, 2) := by decide +kernel
theorem d_M_search_24 : decode b_M_search 24 = .ok (.aload_n 0, 1) := by decide +kernel
theorem d_M_search_25 : decode b_M_search 25 = .ok (.getfield 7, 3) := by decide +kernel
theorem d_M_search_28 : decode b_M_search 28 = .ok (.iload 5, 2) := by decide +kernel
theorem d_M_search_30 : decode b_M_search 30 = .ok (.baload, 1) := by decide +kernel
theorem d_M_search_31 : decode b_M_search 31 = .ok (.ifCond .eq 35, 3) := by decide +kernel
theorem d_M_search_34 : decode b_M_search 34 = .ok (.iload_n 3, 1) := by decide +kernel
theorem d_M_search_35 : decode b_M_search 35 = .ok (.ifCond .eq 13, 3) := by decide +kernel
theorem d_M_search_38 : decode b_M_search 38 = .ok (.aload_n 0, 1) := by decide +kernel
theorem d_M_search_39 : decode b_M_search 39 = .ok (.getfield 17, 3) := by decide +kernel
theorem d_M_search_42 : decode b_M_search 42 = .ok (.iload 5, 2) := by decide +kernel
theorem d_M_search_44 : decode b_M_search 44 = .ok (.baload, 1) := by decide +kernel
theorem d_M_search_45 : decode b_M_search 45 = .ok (.ifCond .eq 21, 3) := by decide +kernel
theorem d_M_search_48 : decode b_M_search 48 = .ok (.aload_n 0, 1) := by decide +kernel
theorem d_M_search_49 : decode b_M_search 49 = .ok (.getfield 13, 3) := by decide +kernel
theorem d_M_search_52 : decode b_M_search 52 = .ok (.iload 5, 2) := by decide +kernel
theorem d_M_search_54 : decode b_M_search 54 = .ok (.iaload, 1) := by decide +kernel
theorem d_M_search_55 : decode b_M_search 55 = .ok (.iload_n 2, 1) := by decide +kernel
theorem d_M_search_56 : decode b_M_search 56 = .ok (.ixor, 1) := by decide +kernel
theorem d_M_search_57 : decode b_M_search 57 = .ok (.iload_n 1, 1) := by decide +kernel
theorem d_M_search_58 : decode b_M_search 58 = .ok (.iand, 1) := by decide +kernel
theorem d_M_search_59 : decode b_M_search 59 = .ok (.ifCond .ne 7, 3) := by decide +kernel
theorem d_M_search_62 : decode b_M_search 62 = .ok (.iconst 1, 1) := by decide +kernel
theorem d_M_search_63 : decode b_M_search 63 = .ok (.goto 4, 3) := by decide +kernel
theorem d_M_search_66 : decode b_M_search 66 = .ok (.iconst 0, 1) := by decide +kernel
theorem d_M_search_67 : decode b_M_search 67 = .ok (.bastore, 1) := by decide +kernel
theorem d_M_search_68 : decode b_M_search 68 = .ok (.iload 4, 2) := by decide +kernel
theorem d_M_search_70 : decode b_M_search 70 = .ok (.aload_n 0, 1) := by decide +kernel
theorem d_M_search_71 : decode b_M_search 71 = .ok (.getfield 17, 3) := by decide +kernel
theorem d_M_search_74 : decode b_M_search 74 = .ok (.iload 5, 2) := by decide +kernel
theorem d_M_search_76 : decode b_M_search 76 = .ok (.baload, 1) := by decide +kernel
theorem d_M_search_77 : decode b_M_search 77 = .ok (.ifCond .eq 7, 3) := by decide +kernel
theorem d_M_search_80 : decode b_M_search 80 = .ok (.iconst 1, 1) := by decide +kernel
theorem d_M_search_81 : decode b_M_search 81 = .ok (.goto 4, 3) := by decide +kernel
theorem d_M_search_84 : decode b_M_search 84 = .ok (.iconst 0, 1) := by decide +kernel
theorem d_M_search_85 : decode b_M_search 85 = .ok (.iadd, 1) := by decide +kernel
theorem d_M_search_86 : decode b_M_search 86 = .ok (.istore 4, 2) := by decide +kernel
theorem d_M_search_88 : decode b_M_search 88 = .ok (.iinc 5 1, 3) := by decide +kernel
theorem d_M_search_91 : decode b_M_search 91 = .ok (.goto (-80), 3) := by decide +kernel
theorem d_M_search_94 : decode b_M_search 94 = .ok (.iload 4, 2) := by decide +kernel
theorem d_M_search_96 : decode b_M_search 96 = .ok (.ireturn, 1) := by decide +kernel
theorem d_M_multi_0 : decode b_M_multi 0 = .ok (.aload_n 0, 1) := by decide +kernel
theorem d_M_multi_1 : decode b_M_multi 1 = .ok (.iload_n 1, 1) := by decide +kernel
theorem d_M_multi_2 : decode b_M_multi 2 = .ok (.ldc 99, 2) := by decide +kernel
theorem d_M_multi_4 : decode b_M_multi 4 = .ok (.iand, 1) := by decide +kernel
theorem d_M_multi_5 : decode b_M_multi 5 = .ok (.ifCond .eq 7, 3) := by decide +kernel
theorem d_M_multi_8 : decode b_M_multi 8 = .ok (.iconst 1, 1) := by decide +kernel
theorem d_M_multi_9 : decode b_M_multi 9 = .ok (.goto 4, 3) := by decide +kernel
theorem d_M_multi_12 : decode b_M_multi 12 = .ok (.iconst 0, 1) := by decide +kernel
theorem d_M_multi_13 : decode b_M_multi 13 = .ok (.putfield 73, 3) := by decide +kernel
theorem d_M_multi_16 : decode b_M_multi 16 = .ok (.iconst 0, 1) := by decide +kernel
theorem d_M_multi_17 : decode b_M_multi 17 = .ok (.istore_n 3, 1) := by decide +kernel
theorem d_M_multi_18 : decode b_M_multi 18 = .ok (.iload_n 3, 1) := by decide +kernel
theorem d_M_multi_19 : decode b_M_multi 19 = .ok (.bipush 32, 2) := by decide +kernel
theorem d_M_multi_21 : decode b_M_multi 21 = .ok (.if_icmp .ge 54, 3) := by decide +kernel
theorem d_M_multi_24 : decode b_M_multi 24 = .ok (.aload_n 0, 1) := by decide +kernel
theorem d_M_multi_25 : decode b_M_multi 25 = .ok (.getfield 73, 3) := by decide +kernel
theorem d_M_multi_28 : decode b_M_multi 28 = .ok (.ifCond .ne 47, 3) := by decide +kernel
theorem d_M_multi_31 : decode b_M_multi 31 = .ok (.aload_n 0, 1) := by decide +kernel
theorem d_M_multi_32 : decode b_M_multi 32 = .ok (.getfield 13, 3) := by decide +kernel
theorem d_M_multi_35 : decode b_M_multi 35 = .ok (.iload_n 3, 1) := by decide +kernel
theorem d_M_multi_36 : decode b_M_multi 36 = .ok (.aload_n 0, 1) := by decide +kernel
theorem d_M_multi_37 : decode b_M_multi 37 = .ok (.getfield 17, 3) := by decide +kernel
theorem d_M_multi_40 : decode b_M_multi 40 = .ok (.iload_n 3, 1) := by decide +kernel
theorem d_M_multi_41 : decode b_M_multi 41 = .ok (.baload, 1) := by decide +kernel
theorem d_M_multi_42 : decode b_M_multi 42 = .ok (.ifCond .eq 20, 3) := by decide +kernel
theorem d_M_multi_45 : decode b_M_multi 45 = .ok (.aload_n 0, 1) := by decide +kernel
theorem d_M_multi_46 : decode b_M_multi 46 = .ok (.getfield 13, 3) := by decide +kernel
theorem d_M_multi_49 : decode b_M_multi 49 = .ok (.iload_n 3, 1) := by decide +kernel
theorem d_M_multi_50 : decode b_M_multi 50 = .ok (.iaload, 1) := by decide +kernel
theorem d_M_multi_51 : decode b_M_multi 51 = .ok (.iload_n 1, 1) := by decide +kernel
theorem d_M_multi_52 : decode b_M_multi 52 = .ok (.iconst (-1), 1) := by decide +kernel
theorem d_M_multi_53 : decode b_M_multi 53 = .ok (.ixor, 1) := by decide +kernel
theorem d_M_multi_54 : decode b_M_multi 54 = .ok (.iand, 1) := by decide +kernel
theorem d_M_multi_55 : decode b_M_multi 55 = .ok (.iload_n 2, 1) := by decide +kernel
theorem d_M_multi_56 : decode b_M_multi 56 = .ok (.iload_n 1, 1) := by decide +kernel
theorem d_M_multi_57 : decode b_M_multi 57 = .ok (.iand, 1) := by decide +kernel
theorem d_M_multi_58 : decode b_M_multi 58 = .ok (.ior, 1) := by decide +kernel
theorem d_M_multi_59 : decode b_M_multi 59 = .ok (.goto 9, 3) := by decide +kernel
theorem d_M_multi_62 : decode b_M_multi 62 = .ok (.aload_n 0, 1) := by decide +kernel
theorem d_M_multi_63 : decode b_M_multi 63 = .ok (.getfield 13, 3) := by decide +kernel
theorem d_M_multi_66 : decode b_M_multi 66 = .ok (.iload_n 3, 1) := by decide +kernel
theorem d_M_multi_67 : decode b_M_multi 67 = .ok (.iaload, 1) := by decide +kernel
theorem d_M_multi_68 : decode b_M_multi 68 = .ok (.iastore, 1) := by decide +kernel
theorem d_M_multi_69 : decode b_M_multi 69 = .ok (.iinc 3 1, 3) := by decide +kernel
theorem d_M_multi_72 : decode b_M_multi 72 = .ok (.goto (-54), 3) := by decide +kernel
theorem d_M_multi_75 : decode b_M_multi 75 = .ok (.return_, 1) := by decide +kernel
theorem d_M_responds_0 : decode b_M_responds 0 = .ok (.aload_n 0, 1) := by decide +kernel
theorem d_M_responds_1 : decode b_M_responds 1 = .ok (.iload_n 1, 1) := by decide +kernel
theorem d_M_responds_2 : decode b_M_responds 2 = .ok (.invokestatic 83, 3) := by decide +kernel
theorem d_M_responds_5 : decode b_M_responds 5 = .ok (.ifCond .eq 7, 3) := by decide +kernel
theorem d_M_responds_8 : decode b_M_responds 8 = .ok (.iconst 0, 1) := by decide +kernel
theorem d_M_responds_9 : decode b_M_responds 9 = .ok (.goto 4, 3) := by decide +kernel
theorem d_M_responds_12 : decode b_M_responds 12 = .ok (.iconst 1, 1) := by decide +kernel
theorem d_M_responds_13 : decode b_M_responds 13 = .ok (.putfield 73, 3) := by decide +kernel
theorem d_M_responds_16 : decode b_M_responds 16 = .ok (.aload_n 0, 1) := by decide +kernel
theorem d_M_responds_17 : decode b_M_responds 17 = .ok (.getfield 73, 3) := by decide +kernel
theorem d_M_responds_20 : decode b_M_responds 20 = .ok (.ifCond .ne 16, 3) := by decide +kernel
theorem d_M_responds_23 : decode b_M_responds 23 = .ok (.aload_n 0, 1) := by decide +kernel
theorem d_M_responds_24 : decode b_M_responds 24 = .ok (.getfield 17, 3) := by decide +kernel
theorem d_M_responds_27 : decode b_M_responds 27 = .ok (.iload_n 1, 1) := by decide +kernel
theorem d_M_responds_28 : decode b_M_responds 28 = .ok (.baload, 1) := by decide +kernel
theorem d_M_responds_29 : decode b_M_responds 29 = .ok (.ifCond .eq 7, 3) := by decide +kernel
theorem d_M_responds_32 : decode b_M_responds 32 = .ok (.iconst 1, 1) := by decide +kernel
theorem d_M_responds_33 : decode b_M_responds 33 = .ok (.goto 4, 3) := by decide +kernel
theorem d_M_responds_36 : decode b_M_responds 36 = .ok (.iconst 0, 1) := by decide +kernel
theorem d_M_responds_37 : decode b_M_responds 37 = .ok (.ireturn, 1) := by decide +kernel
theorem d_M_first_0 : decode b_M_first 0 = .ok (.aload_n 0, 1) := by decide +kernel
theorem d_M_first_1 : decode b_M_first 1 = .ok (.iconst 0, 1) := by decide +kernel
theorem d_M_first_2 : decode b_M_first 2 = .ok (.putfield 73, 3) := by decide +kernel
theorem d_M_first_5 : decode b_M_first 5 = .ok (.iconst 0, 1) := by decide +kernel
theorem d_M_first_6 : decode b_M_first 6 = .ok (.istore_n 1, 1) := by decide +kernel
theorem d_M_first_7 : decode b_M_first 7 = .ok (.iload_n 1, 1) := by decide +kernel
theorem d_M_first_8 : decode b_M_first 8 = .ok (.bipush 32, 2) := by decide +kernel
theorem d_M_first_10 : decode b_M_first 10 = .ok (.if_icmp .ge 27, 3) := by decide +kernel
theorem d_M_first_13 : decode b_M_first 13 = .ok (.aload_n 0, 1) := by decide +kernel
theorem d_M_first_14 : decode b_M_first 14 = .ok (.getfield 17, 3) := by decide +kernel
theorem d_M_first_17 : decode b_M_first 17 = .ok (.iload_n 1, 1) := by decide +kernel
theorem d_M_first_18 : decode b_M_first 18 = .ok (.baload, 1) := by decide +kernel
theorem d_M_first_19 : decode b_M_first 19 = .ok (.ifCond .eq 12, 3) := by decide +kernel
theorem d_M_first_22 : decode b_M_first 22 = .ok (.aload_n 0, 1) := by decide +kernel
theorem d_M_first_23 : decode b_M_first 23 = .ok (.getfield 17, 3) := by decide +kernel
theorem d_M_first_26 : decode b_M_first 26 = .ok (.iload_n 1, 1) := by decide +kernel
theorem d_M_first_27 : decode b_M_first 27 = .ok (.iconst 0, 1) := by decide +kernel
theorem d_M_first_28 : decode b_M_first 28 = .ok (.bastore, 1) := by decide +kernel
theorem d_M_first_29 : decode b_M_first 29 = .ok (.iload_n 1, 1) := by decide +kernel
theorem d_M_first_30 : decode b_M_first 30 = .ok (.ireturn, 1) := by decide +kernel
theorem d_M_first_31 : decode b_M_first 31 = .ok (.iinc 1 1, 3) := by decide +kernel
theorem d_M_first_34 : decode b_M_first 34 = .ok (.goto (-27), 3) := by decide +kernel
theorem d_M_first_37 : decode b_M_first 37 = .ok (.iconst (-1), 1) := by decide +kernel
theorem d_M_first_38 : decode b_M_first 38 = .ok (.ireturn, 1) := by decide +kernel
theorem d_M_write_0 : decode b_M_write 0 = .ok (.aload_n 0, 1) := by decide +kernel
theorem d_M_write_1 : decode b_M_write 1 = .ok (.iconst 0, 1) := by decide +kernel
theorem d_M_write_2 : decode b_M_write 2 = .ok (.putfield 73, 3) := by decide +kernel
theorem d_M_write_5 : decode b_M_write 5 = .ok (.iconst 0, 1) := by decide +kernel
theorem d_M_write_6 : decode b_M_write 6 = .ok (.istore_n 3, 1) := by decide +kernel
theorem d_M_write_7 : decode b_M_write 7 = .ok (.iconst 0, 1) := by decide +kernel
theorem d_M_write_8 : decode b_M_write 8 = .ok (.istore 4, 2) := by decide +kernel
theorem d_M_write_10 : decode b_M_write 10 = .ok (.iload 4, 2) := by decide +kernel
theorem d_M_write_12 : decode b_M_write 12 = .ok (.bipush 8, 2) := by decide +kernel
theorem d_M_write_14 : decode b_M_write 14 = .ok (.if_icmp .ge 57, 3) := by decide +kernel
theorem d_M_write_17 : decode b_M_write 17 = .ok (.lload_n 1, 1) := by decide +kernel
theorem d_M_write_18 : decode b_M_write 18 = .ok (.bipush 8, 2) := by decide +kernel
theorem d_M_write_20 : decode b_M_write 20 = .ok (.iload 4, 2) := by decide +kernel
theorem d_M_write_22 : decode b_M_write 22 = .ok (.imul, 1) := by decide +kernel
theorem d_M_write_23 : decode b_M_write 23 = .ok (.lshr, 1) := by decide +kernel
theorem d_M_write_24 : decode b_M_write 24 = .ok (.ldc2_w 100, 3) := by decide +kernel
theorem d_M_write_27 : decode b_M_write 27 = .ok (.land, 1) := by decide +kernel
theorem d_M_write_28 : decode b_M_write 28 = .ok (.l2i, 1) := by decide +kernel
theorem d_M_write_29 : decode b_M_write 29 = .ok (.istore 5, 2) := by decide +kernel
theorem d_M_write_31 : decode b_M_write 31 = .ok (.iload 5, 2) := by decide +kernel
theorem d_M_write_33 : decode b_M_write 33 = .ok (.ifCond .eq 19, 3) := by decide +kernel
theorem d_M_write_36 : decode b_M_write 36 = .ok (.iload 5, 2) := by decide +kernel
theorem d_M_write_38 : decode b_M_write 38 = .ok (.bipush 32, 2) := by decide +kernel
theorem d_M_write_40 : decode b_M_write 40 = .ok (.if_icmp .lt 10, 3) := by decide +kernel
theorem d_M_write_43 : decode b_M_write 43 = .ok (.iload 5, 2) := by decide +kernel
theorem d_M_write_45 : decode b_M_write 45 = .ok (.bipush 126, 2) := by decide +kernel
theorem d_M_write_47 : decode b_M_write 47 = .ok (.if_icmp .le 5, 3) := by decide +kernel
theorem d_M_write_50 : decode b_M_write 50 = .ok (.iconst 0, 1) := by decide +kernel
theorem d_M_write_51 : decode b_M_write 51 = .ok (.ireturn, 1) := by decide +kernel
theorem d_M_write_52 : decode b_M_write 52 = .ok (.iload_n 3, 1) := by decide +kernel
theorem d_M_write_53 : decode b_M_write 53 = .ok (.iload 5, 2) := by decide +kernel
theorem d_M_write_55 : decode b_M_write 55 = .ok (.ifCond .ne 7, 3) := by decide +kernel
theorem d_M_write_58 : decode b_M_write 58 = .ok (.iconst 0, 1) := by decide +kernel
theorem d_M_write_59 : decode b_M_write 59 = .ok (.goto 4, 3) := by decide +kernel
theorem d_M_write_62 : decode b_M_write 62 = .ok (.iconst 1, 1) := by decide +kernel
theorem d_M_write_63 : decode b_M_write 63 = .ok (.iadd, 1) := by decide +kernel
theorem d_M_write_64 : decode b_M_write 64 = .ok (.istore_n 3, 1) := by decide +kernel
theorem d_M_write_65 : decode b_M_write 65 = .ok (.iinc 4 1, 3) := by decide +kernel
theorem d_M_write_68 : decode b_M_write 68 = .ok (.goto (-58), 3) := by decide +kernel
theorem d_M_write_71 : decode b_M_write 71 = .ok (.aload_n 0, 1) := by decide +kernel
theorem d_M_write_72 : decode b_M_write 72 = .ok (.getfield 102, 3) := by decide +kernel
theorem d_M_write_75 : decode b_M_write 75 = .ok (.iload_n 3, 1) := by decide +kernel
theorem d_M_write_76 : decode b_M_write 76 = .ok (.iadd, 1) := by decide +kernel
theorem d_M_write_77 : decode b_M_write 77 = .ok (.bipush 100, 2) := by decide +kernel
theorem d_M_write_79 : decode b_M_write 79 = .ok (.if_icmp .le 5, 3) := by decide +kernel
theorem d_M_write_82 : decode b_M_write 82 = .ok (.iconst 0, 1) := by decide +kernel
theorem d_M_write_83 : decode b_M_write 83 = .ok (.ireturn, 1) := by decide +kernel
theorem d_M_write_84 : decode b_M_write 84 = .ok (.iconst 0, 1) := by decide +kernel
theorem d_M_write_85 : decode b_M_write 85 = .ok (.istore 4, 2) := by decide +kernel
theorem d_M_write_87 : decode b_M_write 87 = .ok (.iload 4, 2) := by decide +kernel
theorem d_M_write_89 : decode b_M_write 89 = .ok (.bipush 8, 2) := by decide +kernel
theorem d_M_write_91 : decode b_M_write 91 = .ok (.if_icmp .ge 50, 3) := by decide +kernel
theorem d_M_write_94 : decode b_M_write 94 = .ok (.lload_n 1, 1) := by decide +kernel
theorem d_M_write_95 : decode b_M_write 95 = .ok (.bipush 8, 2) := by decide +kernel
theorem d_M_write_97 : decode b_M_write 97 = .ok (.iload 4, 2) := by decide +kernel
theorem d_M_write_99 : decode b_M_write 99 = .ok (.imul, 1) := by decide +kernel
theorem d_M_write_100 : decode b_M_write 100 = .ok (.lshr, 1) := by decide +kernel
theorem d_M_write_101 : decode b_M_write 101 = .ok (.ldc2_w 100, 3) := by decide +kernel
theorem d_M_write_104 : decode b_M_write 104 = .ok (.land, 1) := by decide +kernel
theorem d_M_write_105 : decode b_M_write 105 = .ok (.l2i, 1) := by decide +kernel
theorem d_M_write_106 : decode b_M_write 106 = .ok (.istore 5, 2) := by decide +kernel
theorem d_M_write_108 : decode b_M_write 108 = .ok (.iload 5, 2) := by decide +kernel
theorem d_M_write_110 : decode b_M_write 110 = .ok (.ifCond .eq 25, 3) := by decide +kernel
theorem d_M_write_113 : decode b_M_write 113 = .ok (.aload_n 0, 1) := by decide +kernel
theorem d_M_write_114 : decode b_M_write 114 = .ok (.getfield 33, 3) := by decide +kernel
theorem d_M_write_117 : decode b_M_write 117 = .ok (.aload_n 0, 1) := by decide +kernel
theorem d_M_write_118 : decode b_M_write 118 = .ok (.getfield 102, 3) := by decide +kernel
theorem d_M_write_121 : decode b_M_write 121 = .ok (.iload 5, 2) := by decide +kernel
theorem d_M_write_123 : decode b_M_write 123 = .ok (.i2c, 1) := by decide +kernel
theorem d_M_write_124 : decode b_M_write 124 = .ok (.castore, 1) := by decide +kernel
theorem d_M_write_125 : decode b_M_write 125 = .ok (.aload_n 0, 1) := by decide +kernel
theorem d_M_write_126 : decode b_M_write 126 = .ok (.dup, 1) := by decide +kernel
theorem d_M_write_127 : decode b_M_write 127 = .ok (.getfield 102, 3) := by decide +kernel
theorem d_M_write_130 : decode b_M_write 130 = .ok (.iconst 1, 1) := by decide +kernel
theorem d_M_write_131 : decode b_M_write 131 = .ok (.iadd, 1) := by decide +kernel
theorem d_M_write_132 : decode b_M_write 132 = .ok (.putfield 102, 3) := by decide +kernel
theorem d_M_write_135 : decode b_M_write 135 = .ok (.iinc 4 1, 3) := by decide +kernel
theorem d_M_write_138 : decode b_M_write 138 = .ok (.goto (-51), 3) := by decide +kernel
theorem d_M_write_141 : decode b_M_write 141 = .ok (.iconst 1, 1) := by decide +kernel
theorem d_M_write_142 : decode b_M_write 142 = .ok (.ireturn, 1) := by decide +kernel
theorem d_M_wipe_0 : decode b_M_wipe 0 = .ok (.aload_n 0, 1) := by decide +kernel
theorem d_M_wipe_1 : decode b_M_wipe 1 = .ok (.iconst 0, 1) := by decide +kernel
theorem d_M_wipe_2 : decode b_M_wipe 2 = .ok (.putfield 73, 3) := by decide +kernel
theorem d_M_wipe_5 : decode b_M_wipe 5 = .ok (.aload_n 0, 1) := by decide +kernel
theorem d_M_wipe_6 : decode b_M_wipe 6 = .ok (.getfield 102, 3) := by decide +kernel
theorem d_M_wipe_9 : decode b_M_wipe 9 = .ok (.istore_n 1, 1) := by decide +kernel
theorem d_M_wipe_10 : decode b_M_wipe 10 = .ok (.aload_n 0, 1) := by decide +kernel
theorem d_M_wipe_11 : decode b_M_wipe 11 = .ok (.iconst 0, 1) := by decide +kernel
theorem d_M_wipe_12 : decode b_M_wipe 12 = .ok (.putfield 102, 3) := by decide +kernel
theorem d_M_wipe_15 : decode b_M_wipe 15 = .ok (.iload_n 1, 1) := by decide +kernel
theorem d_M_wipe_16 : decode b_M_wipe 16 = .ok (.ireturn, 1) := by decide +kernel
theorem d_M_run_0 : decode b_M_run 0 = .ok (.aload_n 0, 1) := by decide +kernel
theorem d_M_run_1 : decode b_M_run 1 = .ok (.invokevirtual 263, 3) := by decide +kernel
theorem d_M_run_4 : decode b_M_run 4 = .ok (.istore_n 1, 1) := by decide +kernel
theorem d_M_run_5 : decode b_M_run 5 = .ok (.aload_n 0, 1) := by decide +kernel
theorem d_M_run_6 : decode b_M_run 6 = .ok (.iload_n 1, 1) := by decide +kernel
theorem d_M_run_7 : decode b_M_run 7 = .ok (.putfield 36, 3) := by decide +kernel
theorem d_M_run_10 : decode b_M_run 10 = .ok (.aload_n 0, 1) := by decide +kernel
theorem d_M_run_11 : decode b_M_run 11 = .ok (.iload_n 1, 1) := by decide +kernel
theorem d_M_run_12 : decode b_M_run 12 = .ok (.ifCond .lt 7, 3) := by decide +kernel
theorem d_M_run_15 : decode b_M_run 15 = .ok (.iconst 1, 1) := by decide +kernel
theorem d_M_run_16 : decode b_M_run 16 = .ok (.goto 4, 3) := by decide +kernel
theorem d_M_run_19 : decode b_M_run 19 = .ok (.iconst 0, 1) := by decide +kernel
theorem d_M_run_20 : decode b_M_run 20 = .ok (.putfield 73, 3) := by decide +kernel
theorem d_M_run_23 : decode b_M_run 23 = .ok (.aload_n 0, 1) := by decide +kernel
theorem d_M_run_24 : decode b_M_run 24 = .ok (.getfield 73, 3) := by decide +kernel
theorem d_M_run_27 : decode b_M_run 27 = .ok (.ifCond .le 5, 3) := by decide +kernel
theorem d_M_run_30 : decode b_M_run 30 = .ok (.iconst 0, 1) := by decide +kernel
theorem d_M_run_31 : decode b_M_run 31 = .ok (.ireturn, 1) := by decide +kernel
theorem d_M_run_32 : decode b_M_run 32 = .ok (.iconst 0, 1) := by decide +kernel
theorem d_M_run_33 : decode b_M_run 33 = .ok (.istore_n 2, 1) := by decide +kernel
theorem d_M_run_34 : decode b_M_run 34 = .ok (.iconst 0, 1) := by decide +kernel
theorem d_M_run_35 : decode b_M_run 35 = .ok (.istore_n 3, 1) := by decide +kernel
theorem d_M_run_36 : decode b_M_run 36 = .ok (.iload_n 3, 1) := by decide +kernel
theorem d_M_run_37 : decode b_M_run 37 = .ok (.bipush 32, 2) := by decide +kernel
theorem d_M_run_39 : decode b_M_run 39 = .ok (.if_icmp .ge 29, 3) := by decide +kernel
theorem d_M_run_42 : decode b_M_run 42 = .ok (.aload_n 0, 1) := by decide +kernel
theorem d_M_run_43 : decode b_M_run 43 = .ok (.iload_n 3, 1) := by decide +kernel
theorem d_M_run_44 : decode b_M_run 44 = .ok (.invokevirtual 266, 3) := by decide +kernel
theorem d_M_run_47 : decode b_M_run 47 = .ok (.istore 4, 2) := by decide +kernel
theorem d_M_run_49 : decode b_M_run 49 = .ok (.iload_n 2, 1) := by decide +kernel
theorem d_M_run_50 : decode b_M_run 50 = .ok (.iload 4, 2) := by decide +kernel
theorem d_M_run_52 : decode b_M_run 52 = .ok (.ifCond .eq 7, 3) := by decide +kernel
theorem d_M_run_55 : decode b_M_run 55 = .ok (.iconst 1, 1) := by decide +kernel
theorem d_M_run_56 : decode b_M_run 56 = .ok (.goto 4, 3) := by decide +kernel
theorem d_M_run_59 : decode b_M_run 59 = .ok (.iconst 0, 1) := by decide +kernel
theorem d_M_run_60 : decode b_M_run 60 = .ok (.iadd, 1) := by decide +kernel
theorem d_M_run_61 : decode b_M_run 61 = .ok (.istore_n 2, 1) := by decide +kernel
theorem d_M_run_62 : decode b_M_run 62 = .ok (.iinc 3 1, 3) := by decide +kernel
theorem d_M_run_65 : decode b_M_run 65 = .ok (.goto (-29), 3) := by decide +kernel
theorem d_M_run_68 : decode b_M_run 68 = .ok (.iload_n 2, 1) := by decide +kernel
theorem d_M_run_69 : decode b_M_run 69 = .ok (.ifCond .ne 26, 3) := by decide +kernel
theorem d_M_run_72 : decode b_M_run 72 = .ok (.aload_n 0, 1) := by decide +kernel
theorem d_M_run_73 : decode b_M_run 73 = .ok (.getfield 167, 3) := by decide +kernel
theorem d_M_run_76 : decode b_M_run 76 = .ok (.iconst 2, 1) := by decide +kernel
theorem d_M_run_77 : decode b_M_run 77 = .ok (.if_icmp .eq 11, 3) := by decide +kernel
theorem d_M_run_80 : decode b_M_run 80 = .ok (.aload_n 0, 1) := by decide +kernel
theorem d_M_run_81 : decode b_M_run 81 = .ok (.getfield 167, 3) := by decide +kernel
theorem d_M_run_84 : decode b_M_run 84 = .ok (.iconst 3, 1) := by decide +kernel
theorem d_M_run_85 : decode b_M_run 85 = .ok (.if_icmp .ne 10, 3) := by decide +kernel
theorem d_M_run_88 : decode b_M_run 88 = .ok (.aload_n 0, 1) := by decide +kernel
theorem d_M_run_89 : decode b_M_run 89 = .ok (.iconst 2, 1) := by decide +kernel
theorem d_M_run_90 : decode b_M_run 90 = .ok (.putfield 73, 3) := by decide +kernel
theorem d_M_run_93 : decode b_M_run 93 = .ok (.iconst 0, 1) := by decide +kernel
theorem d_M_run_94 : decode b_M_run 94 = .ok (.ireturn, 1) := by decide +kernel
theorem d_M_run_95 : decode b_M_run 95 = .ok (.iconst 0, 1) := by decide +kernel
theorem d_M_run_96 : decode b_M_run 96 = .ok (.istore_n 3, 1) := by decide +kernel
theorem d_M_run_97 : decode b_M_run 97 = .ok (.iload_n 3, 1) := by decide +kernel
theorem d_M_run_98 : decode b_M_run 98 = .ok (.bipush 32, 2) := by decide +kernel
theorem d_M_run_100 : decode b_M_run 100 = .ok (.if_icmp .ge 20, 3) := by decide +kernel
theorem d_M_run_103 : decode b_M_run 103 = .ok (.aload_n 0, 1) := by decide +kernel
theorem d_M_run_104 : decode b_M_run 104 = .ok (.getfield 17, 3) := by decide +kernel
theorem d_M_run_107 : decode b_M_run 107 = .ok (.iload_n 3, 1) := by decide +kernel
theorem d_M_run_108 : decode b_M_run 108 = .ok (.aload_n 0, 1) := by decide +kernel
theorem d_M_run_109 : decode b_M_run 109 = .ok (.iload_n 3, 1) := by decide +kernel
theorem d_M_run_110 : decode b_M_run 110 = .ok (.invokevirtual 266, 3) := by decide +kernel
theorem d_M_run_113 : decode b_M_run 113 = .ok (.bastore, 1) := by decide +kernel
theorem d_M_run_114 : decode b_M_run 114 = .ok (.iinc 3 1, 3) := by decide +kernel
theorem d_M_run_117 : decode b_M_run 117 = .ok (.goto (-20), 3) := by decide +kernel
theorem d_M_run_120 : decode b_M_run 120 = .ok (.aload_n 0, 1) := by decide +kernel
theorem d_M_run_121 : decode b_M_run 121 = .ok (.iconst 0, 1) := by decide +kernel
theorem d_M_run_122 : decode b_M_run 122 = .ok (.putfield 102, 3) := by decide +kernel
theorem d_M_run_125 : decode b_M_run 125 = .ok (.aload_n 0, 1) := by decide +kernel
theorem d_M_run_126 : decode b_M_run 126 = .ok (.iconst 0, 1) := by decide +kernel
theorem d_M_run_127 : decode b_M_run 127 = .ok (.putfield 257, 3) := by decide +kernel
theorem d_M_run_130 : decode b_M_run 130 = .ok (.aload_n 0, 1) := by decide +kernel
theorem d_M_run_131 : decode b_M_run 131 = .ok (.getfield 167, 3) := by decide +kernel
theorem d_M_run_134 : decode b_M_run 134 = .ok (.iconst 1, 1) := by decide +kernel
theorem d_M_run_135 : decode b_M_run 135 = .ok (.if_icmp .ne 10, 3) := by decide +kernel
theorem d_M_run_138 : decode b_M_run 138 = .ok (.aload_n 0, 1) := by decide +kernel
theorem d_M_run_139 : decode b_M_run 139 = .ok (.invokevirtual 269, 3) := by decide +kernel
theorem d_M_run_142 : decode b_M_run 142 = .ok (.goto 35, 3) := by decide +kernel
theorem d_M_run_145 : decode b_M_run 145 = .ok (.aload_n 0, 1) := by decide +kernel
theorem d_M_run_146 : decode b_M_run 146 = .ok (.getfield 167, 3) := by decide +kernel
theorem d_M_run_149 : decode b_M_run 149 = .ok (.iconst 5, 1) := by decide +kernel
theorem d_M_run_150 : decode b_M_run 150 = .ok (.if_icmp .ne 10, 3) := by decide +kernel
theorem d_M_run_153 : decode b_M_run 153 = .ok (.aload_n 0, 1) := by decide +kernel
theorem d_M_run_154 : decode b_M_run 154 = .ok (.invokevirtual 272, 3) := by decide +kernel
theorem d_M_run_157 : decode b_M_run 157 = .ok (.goto 20, 3) := by decide +kernel
theorem d_M_run_160 : decode b_M_run 160 = .ok (.aload_n 0, 1) := by decide +kernel
theorem d_M_run_161 : decode b_M_run 161 = .ok (.getfield 167, 3) := by decide +kernel
theorem d_M_run_164 : decode b_M_run 164 = .ok (.bipush 6, 2) := by decide +kernel
theorem d_M_run_166 : decode b_M_run 166 = .ok (.if_icmp .ne 7, 3) := by decide +kernel
theorem d_M_run_169 : decode b_M_run 169 = .ok (.iload_n 2, 1) := by decide +kernel
theorem d_M_run_170 : decode b_M_run 170 = .ok (.goto 7, 3) := by decide +kernel
theorem d_M_run_173 : decode b_M_run 173 = .ok (.aload_n 0, 1) := by decide +kernel
theorem d_M_run_174 : decode b_M_run 174 = .ok (.invokevirtual 275, 3) := by decide +kernel
theorem d_M_run_177 : decode b_M_run 177 = .ok (.istore_n 3, 1) := by decide +kernel
theorem d_M_run_178 : decode b_M_run 178 = .ok (.iconst 0, 1) := by decide +kernel
theorem d_M_run_179 : decode b_M_run 179 = .ok (.istore 4, 2) := by decide +kernel
theorem d_M_run_181 : decode b_M_run 181 = .ok (.iload 4, 2) := by decide +kernel
theorem d_M_run_183 : decode b_M_run 183 = .ok (.bipush 32, 2) := by decide +kernel
theorem d_M_run_185 : decode b_M_run 185 = .ok (.if_icmp .ge 21, 3) := by decide +kernel
theorem d_M_run_188 : decode b_M_run 188 = .ok (.aload_n 0, 1) := by decide +kernel
theorem d_M_run_189 : decode b_M_run 189 = .ok (.getfield 13, 3) := by decide +kernel
theorem d_M_run_192 : decode b_M_run 192 = .ok (.iload 4, 2) := by decide +kernel
theorem d_M_run_194 : decode b_M_run 194 = .ok (.dup2, 1) := by decide +kernel
theorem d_M_run_195 : decode b_M_run 195 = .ok (.iaload, 1) := by decide +kernel
theorem d_M_run_196 : decode b_M_run 196 = .ok (.ldc 99, 2) := by decide +kernel
theorem d_M_run_198 : decode b_M_run 198 = .ok (.iand, 1) := by decide +kernel
theorem d_M_run_199 : decode b_M_run 199 = .ok (.iastore, 1) := by decide +kernel
theorem d_M_run_200 : decode b_M_run 200 = .ok (.iinc 4 1, 3) := by decide +kernel
theorem d_M_run_203 : decode b_M_run 203 = .ok (.goto (-22), 3) := by decide +kernel
theorem d_M_run_206 : decode b_M_run 206 = .ok (.iload_n 3, 1) := by decide +kernel
theorem d_M_run_207 : decode b_M_run 207 = .ok (.ireturn, 1) := by decide +kernel
theorem d_M_readText_0 : decode b_M_readText 0 = .ok (.aload_n 0, 1) := by decide +kernel
theorem d_M_readText_1 : decode b_M_readText 1 = .ok (.iconst 0, 1) := by decide +kernel
theorem d_M_readText_2 : decode b_M_readText 2 = .ok (.putfield 149, 3) := by decide +kernel
theorem d_M_readText_5 : decode b_M_readText 5 = .ok (.aload_n 0, 1) := by decide +kernel
theorem d_M_readText_6 : decode b_M_readText 6 = .ok (.iconst 0, 1) := by decide +kernel
theorem d_M_readText_7 : decode b_M_readText 7 = .ok (.putfield 152, 3) := by decide +kernel
theorem d_M_readText_10 : decode b_M_readText 10 = .ok (.aload_n 0, 1) := by decide +kernel
theorem d_M_readText_11 : decode b_M_readText 11 = .ok (.iconst 0, 1) := by decide +kernel
theorem d_M_readText_12 : decode b_M_readText 12 = .ok (.putfield 178, 3) := by decide +kernel
theorem d_M_readText_15 : decode b_M_readText 15 = .ok (.aload_n 0, 1) := by decide +kernel
theorem d_M_readText_16 : decode b_M_readText 16 = .ok (.iconst 0, 1) := by decide +kernel
theorem d_M_readText_17 : decode b_M_readText 17 = .ok (.putfield 203, 3) := by decide +kernel
theorem d_M_readText_20 : decode b_M_readText 20 = .ok (.iconst 0, 1) := by decide +kernel
theorem d_M_readText_21 : decode b_M_readText 21 = .ok (.istore_n 1, 1) := by decide +kernel
theorem d_M_readText_22 : decode b_M_readText 22 = .ok (.iconst 0, 1) := by decide +kernel
theorem d_M_readText_23 : decode b_M_readText 23 = .ok (.istore_n 2, 1) := by decide +kernel
theorem d_M_readText_24 : decode b_M_readText 24 = .ok (.aload_n 0, 1) := by decide +kernel
theorem d_M_readText_25 : decode b_M_readText 25 = .ok (.iload_n 2, 1) := by decide +kernel
theorem d_M_readText_26 : decode b_M_readText 26 = .ok (.invokevirtual 238, 3) := by decide +kernel
theorem d_M_readText_29 : decode b_M_readText 29 = .ok (.aload_n 0, 1) := by decide +kernel
theorem d_M_readText_30 : decode b_M_readText 30 = .ok (.getfield 132, 3) := by decide +kernel
theorem d_M_readText_33 : decode b_M_readText 33 = .ok (.ifCond .ne 11, 3) := by decide +kernel
theorem d_M_readText_36 : decode b_M_readText 36 = .ok (.iload_n 1, 1) := by decide +kernel
theorem d_M_readText_37 : decode b_M_readText 37 = .ok (.bipush 16, 2) := by decide +kernel
theorem d_M_readText_39 : decode b_M_readText 39 = .ok (.if_icmp .ne 5, 3) := by decide +kernel
theorem d_M_readText_42 : decode b_M_readText 42 = .ok (.iconst (-1), 1) := by decide +kernel
theorem d_M_readText_43 : decode b_M_readText 43 = .ok (.ireturn, 1) := by decide +kernel
theorem d_M_readText_44 : decode b_M_readText 44 = .ok (.aload_n 0, 1) := by decide +kernel
theorem d_M_readText_45 : decode b_M_readText 45 = .ok (.getfield 132, 3) := by decide +kernel
theorem d_M_readText_48 : decode b_M_readText 48 = .ok (.iconst 4, 1) := by decide +kernel
theorem d_M_readText_49 : decode b_M_readText 49 = .ok (.if_icmp .ne 8, 3) := by decide +kernel
theorem d_M_readText_52 : decode b_M_readText 52 = .ok (.bipush 17, 2) := by decide +kernel
theorem d_M_readText_54 : decode b_M_readText 54 = .ok (.goto 8, 3) := by decide +kernel
theorem d_M_readText_57 : decode b_M_readText 57 = .ok (.aload_n 0, 1) := by decide +kernel
theorem d_M_readText_58 : decode b_M_readText 58 = .ok (.iload_n 1, 1) := by decide +kernel
theorem d_M_readText_59 : decode b_M_readText 59 = .ok (.invokevirtual 241, 3) := by decide +kernel
theorem d_M_readText_62 : decode b_M_readText 62 = .ok (.istore_n 1, 1) := by decide +kernel
theorem d_M_readText_63 : decode b_M_readText 63 = .ok (.iload_n 1, 1) := by decide +kernel
theorem d_M_readText_64 : decode b_M_readText 64 = .ok (.bipush 17, 2) := by decide +kernel
theorem d_M_readText_66 : decode b_M_readText 66 = .ok (.if_icmp .ne 22, 3) := by decide +kernel
theorem d_M_readText_69 : decode b_M_readText 69 = .ok (.aload_n 0, 1) := by decide +kernel
theorem d_M_readText_70 : decode b_M_readText 70 = .ok (.getfield 132, 3) := by decide +kernel
theorem d_M_readText_73 : decode b_M_readText 73 = .ok (.ifCond .ne 10, 3) := by decide +kernel
theorem d_M_readText_76 : decode b_M_readText 76 = .ok (.aload_n 0, 1) := by decide +kernel
theorem d_M_readText_77 : decode b_M_readText 77 = .ok (.getfield 102, 3) := by decide +kernel
theorem d_M_readText_80 : decode b_M_readText 80 = .ok (.goto 7, 3) := by decide +kernel
theorem d_M_readText_83 : decode b_M_readText 83 = .ok (.aload_n 0, 1) := by decide +kernel
theorem d_M_readText_84 : decode b_M_readText 84 = .ok (.getfield 105, 3) := by decide +kernel
theorem d_M_readText_87 : decode b_M_readText 87 = .ok (.ireturn, 1) := by decide +kernel
theorem d_M_readText_88 : decode b_M_readText 88 = .ok (.aload_n 0, 1) := by decide +kernel
theorem d_M_readText_89 : decode b_M_readText 89 = .ok (.getfield 132, 3) := by decide +kernel
theorem d_M_readText_92 : decode b_M_readText 92 = .ok (.ifCond .ne 5, 3) := by decide +kernel
theorem d_M_readText_95 : decode b_M_readText 95 = .ok (.iconst (-1), 1) := by decide +kernel
theorem d_M_readText_96 : decode b_M_readText 96 = .ok (.ireturn, 1) := by decide +kernel
theorem d_M_readText_97 : decode b_M_readText 97 = .ok (.aload_n 0, 1) := by decide +kernel
theorem d_M_readText_98 : decode b_M_readText 98 = .ok (.getfield 112, 3) := by decide +kernel
theorem d_M_readText_101 : decode b_M_readText 101 = .ok (.istore_n 2, 1) := by decide +kernel
theorem d_M_readText_102 : decode b_M_readText 102 = .ok (.goto (-78), 3) := by decide +kernel
theorem d_M_scan_0 : decode b_M_scan 0 = .ok (.aload_n 0, 1) := by decide +kernel
theorem d_M_scan_1 : decode b_M_scan 1 = .ok (.iload_n 1, 1) := by decide +kernel
theorem d_M_scan_2 : decode b_M_scan 2 = .ok (.putfield 105, 3) := by decide +kernel
theorem d_M_scan_5 : decode b_M_scan 5 = .ok (.aload_n 0, 1) := by decide +kernel
theorem d_M_scan_6 : decode b_M_scan 6 = .ok (.aload_n 0, 1) := by decide +kernel
theorem d_M_scan_7 : decode b_M_scan 7 = .ok (.getfield 105, 3) := by decide +kernel
theorem d_M_scan_10 : decode b_M_scan 10 = .ok (.invokevirtual 108, 3) := by decide +kernel
theorem d_M_scan_13 : decode b_M_scan 13 = .ok (.bipush 32, 2) := by decide +kernel
theorem d_M_scan_15 : decode b_M_scan 15 = .ok (.if_icmp .ne 16, 3) := by decide +kernel
theorem d_M_scan_18 : decode b_M_scan 18 = .ok (.aload_n 0, 1) := by decide +kernel
theorem d_M_scan_19 : decode b_M_scan 19 = .ok (.dup, 1) := by decide +kernel
theorem d_M_scan_20 : decode b_M_scan 20 = .ok (.getfield 105, 3) := by decide +kernel
theorem d_M_scan_23 : decode b_M_scan 23 = .ok (.iconst 1, 1) := by decide +kernel
theorem d_M_scan_24 : decode b_M_scan 24 = .ok (.iadd, 1) := by decide +kernel
theorem d_M_scan_25 : decode b_M_scan 25 = .ok (.putfield 105, 3) := by decide +kernel
theorem d_M_scan_28 : decode b_M_scan 28 = .ok (.goto (-23), 3) := by decide +kernel
theorem d_M_scan_31 : decode b_M_scan 31 = .ok (.aload_n 0, 1) := by decide +kernel
theorem d_M_scan_32 : decode b_M_scan 32 = .ok (.aload_n 0, 1) := by decide +kernel
theorem d_M_scan_33 : decode b_M_scan 33 = .ok (.getfield 105, 3) := by decide +kernel
theorem d_M_scan_36 : decode b_M_scan 36 = .ok (.putfield 112, 3) := by decide +kernel
theorem d_M_scan_39 : decode b_M_scan 39 = .ok (.aload_n 0, 1) := by decide +kernel
theorem d_M_scan_40 : decode b_M_scan 40 = .ok (.iconst 0, 1) := by decide +kernel
theorem d_M_scan_41 : decode b_M_scan 41 = .ok (.putfield 115, 3) := by decide +kernel
theorem d_M_scan_44 : decode b_M_scan 44 = .ok (.aload_n 0, 1) := by decide +kernel
theorem d_M_scan_45 : decode b_M_scan 45 = .ok (.lconst 0, 1) := by decide +kernel
theorem d_M_scan_46 : decode b_M_scan 46 = .ok (.putfield 118, 3) := by decide +kernel
theorem d_M_scan_49 : decode b_M_scan 49 = .ok (.aload_n 0, 1) := by decide +kernel
theorem d_M_scan_50 : decode b_M_scan 50 = .ok (.aload_n 0, 1) := by decide +kernel
theorem d_M_scan_51 : decode b_M_scan 51 = .ok (.getfield 105, 3) := by decide +kernel
theorem d_M_scan_54 : decode b_M_scan 54 = .ok (.invokevirtual 108, 3) := by decide +kernel
theorem d_M_scan_57 : decode b_M_scan 57 = .ok (.istore_n 2, 1) := by decide +kernel
theorem d_M_scan_58 : decode b_M_scan 58 = .ok (.aload_n 0, 1) := by decide +kernel
theorem d_M_scan_59 : decode b_M_scan 59 = .ok (.aload_n 0, 1) := by decide +kernel
theorem d_M_scan_60 : decode b_M_scan 60 = .ok (.getfield 105, 3) := by decide +kernel
theorem d_M_scan_63 : decode b_M_scan 63 = .ok (.aload_n 0, 1) := by decide +kernel
theorem d_M_scan_64 : decode b_M_scan 64 = .ok (.getfield 102, 3) := by decide +kernel
theorem d_M_scan_67 : decode b_M_scan 67 = .ok (.if_icmp .lt 7, 3) := by decide +kernel
theorem d_M_scan_70 : decode b_M_scan 70 = .ok (.iconst 0, 1) := by decide +kernel
theorem d_M_scan_71 : decode b_M_scan 71 = .ok (.goto 37, 3) := by decide +kernel
theorem d_M_scan_74 : decode b_M_scan 74 = .ok (.iload_n 2, 1) := by decide +kernel
theorem d_M_scan_75 : decode b_M_scan 75 = .ok (.invokestatic 122, 3) := by decide +kernel
theorem d_M_scan_78 : decode b_M_scan 78 = .ok (.ifCond .eq 7, 3) := by decide +kernel
theorem d_M_scan_81 : decode b_M_scan 81 = .ok (.iconst 1, 1) := by decide +kernel
theorem d_M_scan_82 : decode b_M_scan 82 = .ok (.goto 26, 3) := by decide +kernel
theorem d_M_scan_85 : decode b_M_scan 85 = .ok (.iload_n 2, 1) := by decide +kernel
theorem d_M_scan_86 : decode b_M_scan 86 = .ok (.invokestatic 126, 3) := by decide +kernel
theorem d_M_scan_89 : decode b_M_scan 89 = .ok (.ifCond .eq 7, 3) := by decide +kernel
theorem d_M_scan_92 : decode b_M_scan 92 = .ok (.iconst 2, 1) := by decide +kernel
theorem d_M_scan_93 : decode b_M_scan 93 = .ok (.goto 15, 3) := by decide +kernel
theorem d_M_scan_96 : decode b_M_scan 96 = .ok (.iload_n 2, 1) := by decide +kernel
theorem d_M_scan_97 : decode b_M_scan 97 = .ok (.invokestatic 129, 3) := by decide +kernel
theorem d_M_scan_100 : decode b_M_scan 100 = .ok (.ifCond .eq 7, 3) := by decide +kernel
theorem d_M_scan_103 : decode b_M_scan 103 = .ok (.iconst 3, 1) := by decide +kernel
theorem d_M_scan_104 : decode b_M_scan 104 = .ok (.goto 4, 3) := by decide +kernel
theorem d_M_scan_107 : decode b_M_scan 107 = .ok (.iconst 4, 1) := by decide +kernel
theorem d_M_scan_108 : decode b_M_scan 108 = .ok (.putfield 132, 3) := by decide +kernel
theorem d_M_scan_111 : decode b_M_scan 111 = .ok (.aload_n 0, 1) := by decide +kernel
theorem d_M_scan_112 : decode b_M_scan 112 = .ok (.getfield 132, 3) := by decide +kernel
theorem d_M_scan_115 : decode b_M_scan 115 = .ok (.iconst 1, 1) := by decide +kernel
theorem d_M_scan_116 : decode b_M_scan 116 = .ok (.if_icmp .ne 71, 3) := by decide +kernel
theorem d_M_scan_119 : decode b_M_scan 119 = .ok (.aload_n 0, 1) := by decide +kernel
theorem d_M_scan_120 : decode b_M_scan 120 = .ok (.aload_n 0, 1) := by decide +kernel
theorem d_M_scan_121 : decode b_M_scan 121 = .ok (.getfield 112, 3) := by decide +kernel
theorem d_M_scan_124 : decode b_M_scan 124 = .ok (.invokevirtual 108, 3) := by decide +kernel
theorem d_M_scan_127 : decode b_M_scan 127 = .ok (.invokestatic 122, 3) := by decide +kernel
theorem d_M_scan_130 : decode b_M_scan 130 = .ok (.ifCond .eq 175, 3) := by decide +kernel
theorem d_M_scan_133 : decode b_M_scan 133 = .ok (.aload_n 0, 1) := by decide +kernel
theorem d_M_scan_134 : decode b_M_scan 134 = .ok (.aload_n 0, 1) := by decide +kernel
theorem d_M_scan_135 : decode b_M_scan 135 = .ok (.getfield 112, 3) := by decide +kernel
theorem d_M_scan_138 : decode b_M_scan 138 = .ok (.aload_n 0, 1) := by decide +kernel
theorem d_M_scan_139 : decode b_M_scan 139 = .ok (.getfield 105, 3) := by decide +kernel
theorem d_M_scan_142 : decode b_M_scan 142 = .ok (.isub, 1) := by decide +kernel
theorem d_M_scan_143 : decode b_M_scan 143 = .ok (.bipush 7, 2) := by decide +kernel
theorem d_M_scan_145 : decode b_M_scan 145 = .ok (.if_icmp .ge 23, 3) := by decide +kernel
theorem d_M_scan_148 : decode b_M_scan 148 = .ok (.aload_n 0, 1) := by decide +kernel
theorem d_M_scan_149 : decode b_M_scan 149 = .ok (.getfield 118, 3) := by decide +kernel
theorem d_M_scan_152 : decode b_M_scan 152 = .ok (.bipush 8, 2) := by decide +kernel
theorem d_M_scan_154 : decode b_M_scan 154 = .ok (.lshl, 1) := by decide +kernel
theorem d_M_scan_155 : decode b_M_scan 155 = .ok (.aload_n 0, 1) := by decide +kernel
theorem d_M_scan_156 : decode b_M_scan 156 = .ok (.aload_n 0, 1) := by decide +kernel
theorem d_M_scan_157 : decode b_M_scan 157 = .ok (.getfield 112, 3) := by decide +kernel
theorem d_M_scan_160 : decode b_M_scan 160 = .ok (.invokevirtual 108, 3) := by decide +kernel
theorem d_M_scan_163 : decode b_M_scan 163 = .ok (.i2l, 1) := by decide +kernel
theorem d_M_scan_164 : decode b_M_scan 164 = .ok (.lor, 1) := by decide +kernel
theorem d_M_scan_165 : decode b_M_scan 165 = .ok (.goto 6, 3) := by decide +kernel
theorem d_M_scan_168 : decode b_M_scan 168 = .ok (.ldc2_w 135, 3) := by decide +kernel
theorem d_M_scan_171 : decode b_M_scan 171 = .ok (.putfield 118, 3) := by decide +kernel
theorem d_M_scan_174 : decode b_M_scan 174 = .ok (.aload_n 0, 1) := by decide +kernel
theorem d_M_scan_175 : decode b_M_scan 175 = .ok (.dup, 1) := by decide +kernel
theorem d_M_scan_176 : decode b_M_scan 176 = .ok (.getfield 112, 3) := by decide +kernel
theorem d_M_scan_179 : decode b_M_scan 179 = .ok (.iconst 1, 1) := by decide +kernel
theorem d_M_scan_180 : decode b_M_scan 180 = .ok (.iadd, 1) := by decide +kernel
theorem d_M_scan_181 : decode b_M_scan 181 = .ok (.putfield 112, 3) := by decide +kernel
theorem d_M_scan_184 : decode b_M_scan 184 = .ok (.goto (-65), 3) := by decide +kernel
theorem d_M_scan_187 : decode b_M_scan 187 = .ok (.aload_n 0, 1) := by decide +kernel
theorem d_M_scan_188 : decode b_M_scan 188 = .ok (.getfield 132, 3) := by decide +kernel
theorem d_M_scan_191 : decode b_M_scan 191 = .ok (.iconst 2, 1) := by decide +kernel
theorem d_M_scan_192 : decode b_M_scan 192 = .ok (.if_icmp .ne 95, 3) := by decide +kernel
theorem d_M_scan_195 : decode b_M_scan 195 = .ok (.aload_n 0, 1) := by decide +kernel
theorem d_M_scan_196 : decode b_M_scan 196 = .ok (.aload_n 0, 1) := by decide +kernel
theorem d_M_scan_197 : decode b_M_scan 197 = .ok (.getfield 112, 3) := by decide +kernel
theorem d_M_scan_200 : decode b_M_scan 200 = .ok (.invokevirtual 108, 3) := by decide +kernel
theorem d_M_scan_203 : decode b_M_scan 203 = .ok (.invokestatic 126, 3) := by decide +kernel
theorem d_M_scan_206 : decode b_M_scan 206 = .ok (.ifCond .eq 56, 3) := by decide +kernel
theorem d_M_scan_209 : decode b_M_scan 209 = .ok (.aload_n 0, 1) := by decide +kernel
theorem d_M_scan_210 : decode b_M_scan 210 = .ok (.aload_n 0, 1) := by decide +kernel
theorem d_M_scan_211 : decode b_M_scan 211 = .ok (.getfield 112, 3) := by decide +kernel
theorem d_M_scan_214 : decode b_M_scan 214 = .ok (.aload_n 0, 1) := by decide +kernel
theorem d_M_scan_215 : decode b_M_scan 215 = .ok (.getfield 105, 3) := by decide +kernel
theorem d_M_scan_218 : decode b_M_scan 218 = .ok (.isub, 1) := by decide +kernel
theorem d_M_scan_219 : decode b_M_scan 219 = .ok (.iconst 3, 1) := by decide +kernel
theorem d_M_scan_220 : decode b_M_scan 220 = .ok (.if_icmp .ge 25, 3) := by decide +kernel
theorem d_M_scan_223 : decode b_M_scan 223 = .ok (.bipush 10, 2) := by decide +kernel
theorem d_M_scan_225 : decode b_M_scan 225 = .ok (.aload_n 0, 1) := by decide +kernel
theorem d_M_scan_226 : decode b_M_scan 226 = .ok (.getfield 115, 3) := by decide +kernel
theorem d_M_scan_229 : decode b_M_scan 229 = .ok (.imul, 1) := by decide +kernel
theorem d_M_scan_230 : decode b_M_scan 230 = .ok (.aload_n 0, 1) := by decide +kernel
theorem d_M_scan_231 : decode b_M_scan 231 = .ok (.aload_n 0, 1) := by decide +kernel
theorem d_M_scan_232 : decode b_M_scan 232 = .ok (.getfield 112, 3) := by decide +kernel
theorem d_M_scan_235 : decode b_M_scan 235 = .ok (.invokevirtual 108, 3) := by decide +kernel
theorem d_M_scan_238 : decode b_M_scan 238 = .ok (.iadd, 1) := by decide +kernel
theorem d_M_scan_239 : decode b_M_scan 239 = .ok (.bipush 48, 2) := by decide +kernel
theorem d_M_scan_241 : decode b_M_scan 241 = .ok (.isub, 1) := by decide +kernel
theorem d_M_scan_242 : decode b_M_scan 242 = .ok (.goto 4, 3) := by decide +kernel
theorem d_M_scan_245 : decode b_M_scan 245 = .ok (.iconst 0, 1) := by decide +kernel
theorem d_M_scan_246 : decode b_M_scan 246 = .ok (.putfield 115, 3) := by decide +kernel
theorem d_M_scan_249 : decode b_M_scan 249 = .ok (.aload_n 0, 1) := by decide +kernel
theorem d_M_scan_250 : decode b_M_scan 250 = .ok (.dup, 1) := by decide +kernel
theorem d_M_scan_251 : decode b_M_scan 251 = .ok (.getfield 112, 3) := by decide +kernel
theorem d_M_scan_254 : decode b_M_scan 254 = .ok (.iconst 1, 1) := by decide +kernel
theorem d_M_scan_255 : decode b_M_scan 255 = .ok (.iadd, 1) := by decide +kernel
theorem d_M_scan_256 : decode b_M_scan 256 = .ok (.putfield 112, 3) := by decide +kernel
theorem d_M_scan_259 : decode b_M_scan 259 = .ok (.goto (-64), 3) := by decide +kernel
theorem d_M_scan_262 : decode b_M_scan 262 = .ok (.aload_n 0, 1) := by decide +kernel
theorem d_M_scan_263 : decode b_M_scan 263 = .ok (.aload_n 0, 1) := by decide +kernel
theorem d_M_scan_264 : decode b_M_scan 264 = .ok (.getfield 112, 3) := by decide +kernel
theorem d_M_scan_267 : decode b_M_scan 267 = .ok (.aload_n 0, 1) := by decide +kernel
theorem d_M_scan_268 : decode b_M_scan 268 = .ok (.getfield 105, 3) := by decide +kernel
theorem d_M_scan_271 : decode b_M_scan 271 = .ok (.isub, 1) := by decide +kernel
theorem d_M_scan_272 : decode b_M_scan 272 = .ok (.iconst 3, 1) := by decide +kernel
theorem d_M_scan_273 : decode b_M_scan 273 = .ok (.if_icmp .le 7, 3) := by decide +kernel
theorem d_M_scan_276 : decode b_M_scan 276 = .ok (.iconst 4, 1) := by decide +kernel
theorem d_M_scan_277 : decode b_M_scan 277 = .ok (.goto 4, 3) := by decide +kernel
theorem d_M_scan_280 : decode b_M_scan 280 = .ok (.iconst 2, 1) := by decide +kernel
theorem d_M_scan_281 : decode b_M_scan 281 = .ok (.putfield 132, 3) := by decide +kernel
theorem d_M_scan_284 : decode b_M_scan 284 = .ok (.goto 21, 3) := by decide +kernel
theorem d_M_scan_287 : decode b_M_scan 287 = .ok (.aload_n 0, 1) := by decide +kernel
theorem d_M_scan_288 : decode b_M_scan 288 = .ok (.getfield 132, 3) := by decide +kernel
theorem d_M_scan_291 : decode b_M_scan 291 = .ok (.iconst 3, 1) := by decide +kernel
theorem d_M_scan_292 : decode b_M_scan 292 = .ok (.if_icmp .ne 13, 3) := by decide +kernel
theorem d_M_scan_295 : decode b_M_scan 295 = .ok (.aload_n 0, 1) := by decide +kernel
theorem d_M_scan_296 : decode b_M_scan 296 = .ok (.dup, 1) := by decide +kernel
theorem d_M_scan_297 : decode b_M_scan 297 = .ok (.getfield 112, 3) := by decide +kernel
theorem d_M_scan_300 : decode b_M_scan 300 = .ok (.iconst 1, 1) := by decide +kernel
theorem d_M_scan_301 : decode b_M_scan 301 = .ok (.iadd, 1) := by decide +kernel
theorem d_M_scan_302 : decode b_M_scan 302 = .ok (.putfield 112, 3) := by decide +kernel
theorem d_M_scan_305 : decode b_M_scan 305 = .ok (.return_, 1) := by decide +kernel
theorem d_M_see_0 : decode b_M_see 0 = .ok (.iload_n 1, 1) := by decide +kernel
theorem d_M_see_1 : decode b_M_see 1 = .ok (.aload_n 0, 1) := by decide +kernel
theorem d_M_see_2 : decode b_M_see 2 = .ok (.getfield 102, 3) := by decide +kernel
theorem d_M_see_5 : decode b_M_see 5 = .ok (.if_icmp .ge 12, 3) := by decide +kernel
theorem d_M_see_8 : decode b_M_see 8 = .ok (.aload_n 0, 1) := by decide +kernel
theorem d_M_see_9 : decode b_M_see 9 = .ok (.getfield 33, 3) := by decide +kernel
theorem d_M_see_12 : decode b_M_see 12 = .ok (.iload_n 1, 1) := by decide +kernel
theorem d_M_see_13 : decode b_M_see 13 = .ok (.caload, 1) := by decide +kernel
theorem d_M_see_14 : decode b_M_see 14 = .ok (.goto 4, 3) := by decide +kernel
theorem d_M_see_17 : decode b_M_see 17 = .ok (.iconst 0, 1) := by decide +kernel
theorem d_M_see_18 : decode b_M_see 18 = .ok (.ireturn, 1) := by decide +kernel
theorem d_M_isLetter_0 : decode b_M_isLetter 0 = .ok (.iload_n 0, 1) := by decide +kernel
theorem d_M_isLetter_1 : decode b_M_isLetter 1 = .ok (.bipush 97, 2) := by decide +kernel
theorem d_M_isLetter_3 : decode b_M_isLetter 3 = .ok (.if_icmp .lt 13, 3) := by decide +kernel
theorem d_M_isLetter_6 : decode b_M_isLetter 6 = .ok (.iload_n 0, 1) := by decide +kernel
theorem d_M_isLetter_7 : decode b_M_isLetter 7 = .ok (.bipush 122, 2) := by decide +kernel
theorem d_M_isLetter_9 : decode b_M_isLetter 9 = .ok (.if_icmp .gt 7, 3) := by decide +kernel
theorem d_M_isLetter_12 : decode b_M_isLetter 12 = .ok (.iconst 1, 1) := by decide +kernel
theorem d_M_isLetter_13 : decode b_M_isLetter 13 = .ok (.goto 4, 3) := by decide +kernel
theorem d_M_isLetter_16 : decode b_M_isLetter 16 = .ok (.iconst 0, 1) := by decide +kernel
theorem d_M_isLetter_17 : decode b_M_isLetter 17 = .ok (.ireturn, 1) := by decide +kernel
theorem d_M_isDigit_0 : decode b_M_isDigit 0 = .ok (.iload_n 0, 1) := by decide +kernel
theorem d_M_isDigit_1 : decode b_M_isDigit 1 = .ok (.bipush 48, 2) := by decide +kernel
theorem d_M_isDigit_3 : decode b_M_isDigit 3 = .ok (.if_icmp .lt 13, 3) := by decide +kernel
theorem d_M_isDigit_6 : decode b_M_isDigit 6 = .ok (.iload_n 0, 1) := by decide +kernel
theorem d_M_isDigit_7 : decode b_M_isDigit 7 = .ok (.bipush 57, 2) := by decide +kernel
theorem d_M_isDigit_9 : decode b_M_isDigit 9 = .ok (.if_icmp .gt 7, 3) := by decide +kernel
theorem d_M_isDigit_12 : decode b_M_isDigit 12 = .ok (.iconst 1, 1) := by decide +kernel
theorem d_M_isDigit_13 : decode b_M_isDigit 13 = .ok (.goto 4, 3) := by decide +kernel
theorem d_M_isDigit_16 : decode b_M_isDigit 16 = .ok (.iconst 0, 1) := by decide +kernel
theorem d_M_isDigit_17 : decode b_M_isDigit 17 = .ok (.ireturn, 1) := by decide +kernel
theorem d_M_isSign_0 : decode b_M_isSign 0 = .ok (.iload_n 0, 1) := by decide +kernel
theorem d_M_isSign_1 : decode b_M_isSign 1 = .ok (.bipush 60, 2) := by decide +kernel
theorem d_M_isSign_3 : decode b_M_isSign 3 = .ok (.if_icmp .eq 69, 3) := by decide +kernel
theorem d_M_isSign_6 : decode b_M_isSign 6 = .ok (.iload_n 0, 1) := by decide +kernel
theorem d_M_isSign_7 : decode b_M_isSign 7 = .ok (.bipush 61, 2) := by decide +kernel
theorem d_M_isSign_9 : decode b_M_isSign 9 = .ok (.if_icmp .eq 63, 3) := by decide +kernel
theorem d_M_isSign_12 : decode b_M_isSign 12 = .ok (.iload_n 0, 1) := by decide +kernel
theorem d_M_isSign_13 : decode b_M_isSign 13 = .ok (.bipush 62, 2) := by decide +kernel
theorem d_M_isSign_15 : decode b_M_isSign 15 = .ok (.if_icmp .eq 57, 3) := by decide +kernel
theorem d_M_isSign_18 : decode b_M_isSign 18 = .ok (.iload_n 0, 1) := by decide +kernel
theorem d_M_isSign_19 : decode b_M_isSign 19 = .ok (.bipush 38, 2) := by decide +kernel
theorem d_M_isSign_21 : decode b_M_isSign 21 = .ok (.if_icmp .eq 51, 3) := by decide +kernel
theorem d_M_isSign_24 : decode b_M_isSign 24 = .ok (.iload_n 0, 1) := by decide +kernel
theorem d_M_isSign_25 : decode b_M_isSign 25 = .ok (.bipush 124, 2) := by decide +kernel
theorem d_M_isSign_27 : decode b_M_isSign 27 = .ok (.if_icmp .eq 45, 3) := by decide +kernel
theorem d_M_isSign_30 : decode b_M_isSign 30 = .ok (.iload_n 0, 1) := by decide +kernel
theorem d_M_isSign_31 : decode b_M_isSign 31 = .ok (.bipush 33, 2) := by decide +kernel
theorem d_M_isSign_33 : decode b_M_isSign 33 = .ok (.if_icmp .eq 39, 3) := by decide +kernel
theorem d_M_isSign_36 : decode b_M_isSign 36 = .ok (.iload_n 0, 1) := by decide +kernel
theorem d_M_isSign_37 : decode b_M_isSign 37 = .ok (.bipush 40, 2) := by decide +kernel
theorem d_M_isSign_39 : decode b_M_isSign 39 = .ok (.if_icmp .eq 33, 3) := by decide +kernel
theorem d_M_isSign_42 : decode b_M_isSign 42 = .ok (.iload_n 0, 1) := by decide +kernel
theorem d_M_isSign_43 : decode b_M_isSign 43 = .ok (.bipush 41, 2) := by decide +kernel
theorem d_M_isSign_45 : decode b_M_isSign 45 = .ok (.if_icmp .eq 27, 3) := by decide +kernel
theorem d_M_isSign_48 : decode b_M_isSign 48 = .ok (.iload_n 0, 1) := by decide +kernel
theorem d_M_isSign_49 : decode b_M_isSign 49 = .ok (.bipush 44, 2) := by decide +kernel
theorem d_M_isSign_51 : decode b_M_isSign 51 = .ok (.if_icmp .eq 21, 3) := by decide +kernel
theorem d_M_isSign_54 : decode b_M_isSign 54 = .ok (.iload_n 0, 1) := by decide +kernel
theorem d_M_isSign_55 : decode b_M_isSign 55 = .ok (.bipush 43, 2) := by decide +kernel
theorem d_M_isSign_57 : decode b_M_isSign 57 = .ok (.if_icmp .eq 15, 3) := by decide +kernel
theorem d_M_isSign_60 : decode b_M_isSign 60 = .ok (.iload_n 0, 1) := by decide +kernel
theorem d_M_isSign_61 : decode b_M_isSign 61 = .ok (.bipush 45, 2) := by decide +kernel
theorem d_M_isSign_63 : decode b_M_isSign 63 = .ok (.if_icmp .eq 9, 3) := by decide +kernel
theorem d_M_isSign_66 : decode b_M_isSign 66 = .ok (.iload_n 0, 1) := by decide +kernel
theorem d_M_isSign_67 : decode b_M_isSign 67 = .ok (.bipush 42, 2) := by decide +kernel
theorem d_M_isSign_69 : decode b_M_isSign 69 = .ok (.if_icmp .ne 7, 3) := by decide +kernel
theorem d_M_isSign_72 : decode b_M_isSign 72 = .ok (.iconst 1, 1) := by decide +kernel
theorem d_M_isSign_73 : decode b_M_isSign 73 = .ok (.goto 4, 3) := by decide +kernel
theorem d_M_isSign_76 : decode b_M_isSign 76 = .ok (.iconst 0, 1) := by decide +kernel
theorem d_M_isSign_77 : decode b_M_isSign 77 = .ok (.ireturn, 1) := by decide +kernel
theorem d_M_next_0 : decode b_M_next 0 = .ok (.iload_n 1, 1) := by decide +kernel
theorem d_M_next_1 : decode b_M_next 1 = .ok (.ifCond .eq 8, 3) := by decide +kernel
theorem d_M_next_4 : decode b_M_next 4 = .ok (.iload_n 1, 1) := by decide +kernel
theorem d_M_next_5 : decode b_M_next 5 = .ok (.iconst 1, 1) := by decide +kernel
theorem d_M_next_6 : decode b_M_next 6 = .ok (.if_icmp .ne 19, 3) := by decide +kernel
theorem d_M_next_9 : decode b_M_next 9 = .ok (.iload_n 1, 1) := by decide +kernel
theorem d_M_next_10 : decode b_M_next 10 = .ok (.ifCond .ne 10, 3) := by decide +kernel
theorem d_M_next_13 : decode b_M_next 13 = .ok (.aload_n 0, 1) := by decide +kernel
theorem d_M_next_14 : decode b_M_next 14 = .ok (.invokevirtual 212, 3) := by decide +kernel
theorem d_M_next_17 : decode b_M_next 17 = .ok (.goto 7, 3) := by decide +kernel
theorem d_M_next_20 : decode b_M_next 20 = .ok (.aload_n 0, 1) := by decide +kernel
theorem d_M_next_21 : decode b_M_next 21 = .ok (.invokevirtual 215, 3) := by decide +kernel
theorem d_M_next_24 : decode b_M_next 24 = .ok (.ireturn, 1) := by decide +kernel
theorem d_M_next_25 : decode b_M_next 25 = .ok (.iload_n 1, 1) := by decide +kernel
theorem d_M_next_26 : decode b_M_next 26 = .ok (.iconst 2, 1) := by decide +kernel
theorem d_M_next_27 : decode b_M_next 27 = .ok (.if_icmp .eq 8, 3) := by decide +kernel
theorem d_M_next_30 : decode b_M_next 30 = .ok (.iload_n 1, 1) := by decide +kernel
theorem d_M_next_31 : decode b_M_next 31 = .ok (.iconst 5, 1) := by decide +kernel
theorem d_M_next_32 : decode b_M_next 32 = .ok (.if_icmp .ne 19, 3) := by decide +kernel
theorem d_M_next_35 : decode b_M_next 35 = .ok (.aload_n 0, 1) := by decide +kernel
theorem d_M_next_36 : decode b_M_next 36 = .ok (.iload_n 1, 1) := by decide +kernel
theorem d_M_next_37 : decode b_M_next 37 = .ok (.iconst 2, 1) := by decide +kernel
theorem d_M_next_38 : decode b_M_next 38 = .ok (.if_icmp .ne 7, 3) := by decide +kernel
theorem d_M_next_41 : decode b_M_next 41 = .ok (.iconst 3, 1) := by decide +kernel
theorem d_M_next_42 : decode b_M_next 42 = .ok (.goto 5, 3) := by decide +kernel
theorem d_M_next_45 : decode b_M_next 45 = .ok (.bipush 6, 2) := by decide +kernel
theorem d_M_next_47 : decode b_M_next 47 = .ok (.invokevirtual 218, 3) := by decide +kernel
theorem d_M_next_50 : decode b_M_next 50 = .ok (.ireturn, 1) := by decide +kernel
theorem d_M_next_51 : decode b_M_next 51 = .ok (.iload_n 1, 1) := by decide +kernel
theorem d_M_next_52 : decode b_M_next 52 = .ok (.tableswitch 169 3 15 #[68, 73, 169, 81, 86, 93, 110, 110, 131, 136, 136, 157, 162], 68) := by decide +kernel
theorem d_M_next_120 : decode b_M_next 120 = .ok (.aload_n 0, 1) := by decide +kernel
theorem d_M_next_121 : decode b_M_next 121 = .ok (.invokevirtual 222, 3) := by decide +kernel
theorem d_M_next_124 : decode b_M_next 124 = .ok (.ireturn, 1) := by decide +kernel
theorem d_M_next_125 : decode b_M_next 125 = .ok (.aload_n 0, 1) := by decide +kernel
theorem d_M_next_126 : decode b_M_next 126 = .ok (.iconst 5, 1) := by decide +kernel
theorem d_M_next_127 : decode b_M_next 127 = .ok (.bipush 6, 2) := by decide +kernel
theorem d_M_next_129 : decode b_M_next 129 = .ok (.invokevirtual 185, 3) := by decide +kernel
theorem d_M_next_132 : decode b_M_next 132 = .ok (.ireturn, 1) := by decide +kernel
theorem d_M_next_133 : decode b_M_next 133 = .ok (.aload_n 0, 1) := by decide +kernel
theorem d_M_next_134 : decode b_M_next 134 = .ok (.invokevirtual 225, 3) := by decide +kernel
theorem d_M_next_137 : decode b_M_next 137 = .ok (.ireturn, 1) := by decide +kernel
theorem d_M_next_138 : decode b_M_next 138 = .ok (.aload_n 0, 1) := by decide +kernel
theorem d_M_next_139 : decode b_M_next 139 = .ok (.bipush 8, 2) := by decide +kernel
theorem d_M_next_141 : decode b_M_next 141 = .ok (.invokevirtual 228, 3) := by decide +kernel
theorem d_M_next_144 : decode b_M_next 144 = .ok (.ireturn, 1) := by decide +kernel
theorem d_M_next_145 : decode b_M_next 145 = .ok (.aload_n 0, 1) := by decide +kernel
theorem d_M_next_146 : decode b_M_next 146 = .ok (.bipush 61, 2) := by decide +kernel
theorem d_M_next_148 : decode b_M_next 148 = .ok (.invokevirtual 175, 3) := by decide +kernel
theorem d_M_next_151 : decode b_M_next 151 = .ok (.ifCond .eq 8, 3) := by decide +kernel
theorem d_M_next_154 : decode b_M_next 154 = .ok (.bipush 9, 2) := by decide +kernel
theorem d_M_next_156 : decode b_M_next 156 = .ok (.goto 5, 3) := by decide +kernel
theorem d_M_next_159 : decode b_M_next 159 = .ok (.bipush 17, 2) := by decide +kernel
theorem d_M_next_161 : decode b_M_next 161 = .ok (.ireturn, 1) := by decide +kernel
theorem d_M_next_162 : decode b_M_next 162 = .ok (.aload_n 0, 1) := by decide +kernel
theorem d_M_next_163 : decode b_M_next 163 = .ok (.iconst 0, 1) := by decide +kernel
theorem d_M_next_164 : decode b_M_next 164 = .ok (.iload_n 1, 1) := by decide +kernel
theorem d_M_next_165 : decode b_M_next 165 = .ok (.bipush 10, 2) := by decide +kernel
theorem d_M_next_167 : decode b_M_next 167 = .ok (.if_icmp .ne 7, 3) := by decide +kernel
theorem d_M_next_170 : decode b_M_next 170 = .ok (.iconst 1, 1) := by decide +kernel
theorem d_M_next_171 : decode b_M_next 171 = .ok (.goto 4, 3) := by decide +kernel
theorem d_M_next_174 : decode b_M_next 174 = .ok (.iconst 0, 1) := by decide +kernel
theorem d_M_next_175 : decode b_M_next 175 = .ok (.bipush 10, 2) := by decide +kernel
theorem d_M_next_177 : decode b_M_next 177 = .ok (.bipush 11, 2) := by decide +kernel
theorem d_M_next_179 : decode b_M_next 179 = .ok (.invokevirtual 231, 3) := by decide +kernel
theorem d_M_next_182 : decode b_M_next 182 = .ok (.ireturn, 1) := by decide +kernel
theorem d_M_next_183 : decode b_M_next 183 = .ok (.aload_n 0, 1) := by decide +kernel
theorem d_M_next_184 : decode b_M_next 184 = .ok (.invokevirtual 235, 3) := by decide +kernel
theorem d_M_next_187 : decode b_M_next 187 = .ok (.ireturn, 1) := by decide +kernel
theorem d_M_next_188 : decode b_M_next 188 = .ok (.aload_n 0, 1) := by decide +kernel
theorem d_M_next_189 : decode b_M_next 189 = .ok (.iconst 1, 1) := by decide +kernel
theorem d_M_next_190 : decode b_M_next 190 = .ok (.iload_n 1, 1) := by decide +kernel
theorem d_M_next_191 : decode b_M_next 191 = .ok (.bipush 13, 2) := by decide +kernel
theorem d_M_next_193 : decode b_M_next 193 = .ok (.if_icmp .ne 7, 3) := by decide +kernel
theorem d_M_next_196 : decode b_M_next 196 = .ok (.iconst 1, 1) := by decide +kernel
theorem d_M_next_197 : decode b_M_next 197 = .ok (.goto 4, 3) := by decide +kernel
theorem d_M_next_200 : decode b_M_next 200 = .ok (.iconst 0, 1) := by decide +kernel
theorem d_M_next_201 : decode b_M_next 201 = .ok (.bipush 13, 2) := by decide +kernel
theorem d_M_next_203 : decode b_M_next 203 = .ok (.bipush 14, 2) := by decide +kernel
theorem d_M_next_205 : decode b_M_next 205 = .ok (.invokevirtual 231, 3) := by decide +kernel
theorem d_M_next_208 : decode b_M_next 208 = .ok (.ireturn, 1) := by decide +kernel
theorem d_M_next_209 : decode b_M_next 209 = .ok (.aload_n 0, 1) := by decide +kernel
theorem d_M_next_210 : decode b_M_next 210 = .ok (.invokevirtual 209, 3) := by decide +kernel
theorem d_M_next_213 : decode b_M_next 213 = .ok (.ireturn, 1) := by decide +kernel
theorem d_M_next_214 : decode b_M_next 214 = .ok (.aload_n 0, 1) := by decide +kernel
theorem d_M_next_215 : decode b_M_next 215 = .ok (.bipush 16, 2) := by decide +kernel
theorem d_M_next_217 : decode b_M_next 217 = .ok (.invokevirtual 228, 3) := by decide +kernel
theorem d_M_next_220 : decode b_M_next 220 = .ok (.ireturn, 1) := by decide +kernel
theorem d_M_next_221 : decode b_M_next 221 = .ok (.bipush 17, 2) := by decide +kernel
theorem d_M_next_223 : decode b_M_next 223 = .ok (.ireturn, 1) := by decide +kernel
theorem d_M_start_0 : decode b_M_start 0 = .ok (.aload_n 0, 1) := by decide +kernel
theorem d_M_start_1 : decode b_M_start 1 = .ok (.getfield 132, 3) := by decide +kernel
theorem d_M_start_4 : decode b_M_start 4 = .ok (.iconst 1, 1) := by decide +kernel
theorem d_M_start_5 : decode b_M_start 5 = .ok (.if_icmp .ne 16, 3) := by decide +kernel
theorem d_M_start_8 : decode b_M_start 8 = .ok (.aload_n 0, 1) := by decide +kernel
theorem d_M_start_9 : decode b_M_start 9 = .ok (.getfield 118, 3) := by decide +kernel
theorem d_M_start_12 : decode b_M_start 12 = .ok (.ldc2_w 170, 3) := by decide +kernel
theorem d_M_start_15 : decode b_M_start 15 = .ok (.lcmp, 1) := by decide +kernel
theorem d_M_start_16 : decode b_M_start 16 = .ok (.ifCond .ne 5, 3) := by decide +kernel
theorem d_M_start_19 : decode b_M_start 19 = .ok (.iconst 1, 1) := by decide +kernel
theorem d_M_start_20 : decode b_M_start 20 = .ok (.ireturn, 1) := by decide +kernel
theorem d_M_start_21 : decode b_M_start 21 = .ok (.aload_n 0, 1) := by decide +kernel
theorem d_M_start_22 : decode b_M_start 22 = .ok (.bipush 6, 2) := by decide +kernel
theorem d_M_start_24 : decode b_M_start 24 = .ok (.iconst 1, 1) := by decide +kernel
theorem d_M_start_25 : decode b_M_start 25 = .ok (.invokevirtual 159, 3) := by decide +kernel
theorem d_M_start_28 : decode b_M_start 28 = .ok (.aload_n 0, 1) := by decide +kernel
theorem d_M_start_29 : decode b_M_start 29 = .ok (.invokevirtual 172, 3) := by decide +kernel
theorem d_M_start_32 : decode b_M_start 32 = .ok (.ireturn, 1) := by decide +kernel
