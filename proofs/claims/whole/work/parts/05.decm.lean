theorem dX4_init_0 : decode cX4_init 0 = .ok (.aload_n 0, 1) := by decide +kernel
theorem dX4_init_1 : decode cX4_init 1 = .ok (.invokespecial 1, 3) := by decide +kernel
theorem dX4_init_4 : decode cX4_init 4 = .ok (.aload_n 0, 1) := by decide +kernel
theorem dX4_init_5 : decode cX4_init 5 = .ok (.sipush 540, 3) := by decide +kernel
theorem dX4_init_8 : decode cX4_init 8 = .ok (.putfield 7, 3) := by decide +kernel
theorem dX4_init_11 : decode cX4_init 11 = .ok (.aload_n 0, 1) := by decide +kernel
theorem dX4_init_12 : decode cX4_init 12 = .ok (.sipush 1020, 3) := by decide +kernel
theorem dX4_init_15 : decode cX4_init 15 = .ok (.putfield 13, 3) := by decide +kernel
theorem dX4_init_18 : decode cX4_init 18 = .ok (.aload_n 0, 1) := by decide +kernel
theorem dX4_init_19 : decode cX4_init 19 = .ok (.iconst 4, 1) := by decide +kernel
theorem dX4_init_20 : decode cX4_init 20 = .ok (.newarray .int, 2) := by decide +kernel
theorem dX4_init_22 : decode cX4_init 22 = .ok (.dup, 1) := by decide +kernel
theorem dX4_init_23 : decode cX4_init 23 = .ok (.iconst 0, 1) := by decide +kernel
theorem dX4_init_24 : decode cX4_init 24 = .ok (.bipush 60, 2) := by decide +kernel
theorem dX4_init_26 : decode cX4_init 26 = .ok (.iastore, 1) := by decide +kernel
theorem dX4_init_27 : decode cX4_init 27 = .ok (.dup, 1) := by decide +kernel
theorem dX4_init_28 : decode cX4_init 28 = .ok (.iconst 1, 1) := by decide +kernel
theorem dX4_init_29 : decode cX4_init 29 = .ok (.bipush 120, 2) := by decide +kernel
theorem dX4_init_31 : decode cX4_init 31 = .ok (.iastore, 1) := by decide +kernel
theorem dX4_init_32 : decode cX4_init 32 = .ok (.dup, 1) := by decide +kernel
theorem dX4_init_33 : decode cX4_init 33 = .ok (.iconst 2, 1) := by decide +kernel
theorem dX4_init_34 : decode cX4_init 34 = .ok (.sipush 240, 3) := by decide +kernel
theorem dX4_init_37 : decode cX4_init 37 = .ok (.iastore, 1) := by decide +kernel
theorem dX4_init_38 : decode cX4_init 38 = .ok (.dup, 1) := by decide +kernel
theorem dX4_init_39 : decode cX4_init 39 = .ok (.iconst 3, 1) := by decide +kernel
theorem dX4_init_40 : decode cX4_init 40 = .ok (.sipush 480, 3) := by decide +kernel
theorem dX4_init_43 : decode cX4_init 43 = .ok (.iastore, 1) := by decide +kernel
theorem dX4_init_44 : decode cX4_init 44 = .ok (.putfield 16, 3) := by decide +kernel
theorem dX4_init_47 : decode cX4_init 47 = .ok (.aload_n 0, 1) := by decide +kernel
theorem dX4_init_48 : decode cX4_init 48 = .ok (.iconst 4, 1) := by decide +kernel
theorem dX4_init_49 : decode cX4_init 49 = .ok (.newarray .int, 2) := by decide +kernel
theorem dX4_init_51 : decode cX4_init 51 = .ok (.dup, 1) := by decide +kernel
theorem dX4_init_52 : decode cX4_init 52 = .ok (.iconst 0, 1) := by decide +kernel
theorem dX4_init_53 : decode cX4_init 53 = .ok (.sipush 240, 3) := by decide +kernel
theorem dX4_init_56 : decode cX4_init 56 = .ok (.iastore, 1) := by decide +kernel
theorem dX4_init_57 : decode cX4_init 57 = .ok (.dup, 1) := by decide +kernel
theorem dX4_init_58 : decode cX4_init 58 = .ok (.iconst 1, 1) := by decide +kernel
theorem dX4_init_59 : decode cX4_init 59 = .ok (.sipush 480, 3) := by decide +kernel
theorem dX4_init_62 : decode cX4_init 62 = .ok (.iastore, 1) := by decide +kernel
theorem dX4_init_63 : decode cX4_init 63 = .ok (.dup, 1) := by decide +kernel
theorem dX4_init_64 : decode cX4_init 64 = .ok (.iconst 2, 1) := by decide +kernel
theorem dX4_init_65 : decode cX4_init 65 = .ok (.sipush 960, 3) := by decide +kernel
theorem dX4_init_68 : decode cX4_init 68 = .ok (.iastore, 1) := by decide +kernel
theorem dX4_init_69 : decode cX4_init 69 = .ok (.dup, 1) := by decide +kernel
theorem dX4_init_70 : decode cX4_init 70 = .ok (.iconst 3, 1) := by decide +kernel
theorem dX4_init_71 : decode cX4_init 71 = .ok (.sipush 1920, 3) := by decide +kernel
theorem dX4_init_74 : decode cX4_init 74 = .ok (.iastore, 1) := by decide +kernel
theorem dX4_init_75 : decode cX4_init 75 = .ok (.putfield 20, 3) := by decide +kernel
theorem dX4_init_78 : decode cX4_init 78 = .ok (.aload_n 0, 1) := by decide +kernel
theorem dX4_init_79 : decode cX4_init 79 = .ok (.bipush 6, 2) := by decide +kernel
theorem dX4_init_81 : decode cX4_init 81 = .ok (.newarray .int, 2) := by decide +kernel
theorem dX4_init_83 : decode cX4_init 83 = .ok (.putfield 23, 3) := by decide +kernel
theorem dX4_init_86 : decode cX4_init 86 = .ok (.aload_n 0, 1) := by decide +kernel
theorem dX4_init_87 : decode cX4_init 87 = .ok (.bipush 6, 2) := by decide +kernel
theorem dX4_init_89 : decode cX4_init 89 = .ok (.newarray .int, 2) := by decide +kernel
theorem dX4_init_91 : decode cX4_init 91 = .ok (.putfield 26, 3) := by decide +kernel
theorem dX4_init_94 : decode cX4_init 94 = .ok (.aload_n 0, 1) := by decide +kernel
theorem dX4_init_95 : decode cX4_init 95 = .ok (.bipush 6, 2) := by decide +kernel
theorem dX4_init_97 : decode cX4_init 97 = .ok (.newarray .int, 2) := by decide +kernel
theorem dX4_init_99 : decode cX4_init 99 = .ok (.putfield 29, 3) := by decide +kernel
theorem dX4_init_102 : decode cX4_init 102 = .ok (.aload_n 0, 1) := by decide +kernel
theorem dX4_init_103 : decode cX4_init 103 = .ok (.bipush 6, 2) := by decide +kernel
theorem dX4_init_105 : decode cX4_init 105 = .ok (.newarray .int, 2) := by decide +kernel
theorem dX4_init_107 : decode cX4_init 107 = .ok (.putfield 32, 3) := by decide +kernel
theorem dX4_init_110 : decode cX4_init 110 = .ok (.aload_n 0, 1) := by decide +kernel
theorem dX4_init_111 : decode cX4_init 111 = .ok (.bipush 6, 2) := by decide +kernel
theorem dX4_init_113 : decode cX4_init 113 = .ok (.newarray .int, 2) := by decide +kernel
theorem dX4_init_115 : decode cX4_init 115 = .ok (.putfield 35, 3) := by decide +kernel
theorem dX4_init_118 : decode cX4_init 118 = .ok (.aload_n 0, 1) := by decide +kernel
theorem dX4_init_119 : decode cX4_init 119 = .ok (.bipush 6, 2) := by decide +kernel
theorem dX4_init_121 : decode cX4_init 121 = .ok (.newarray .int, 2) := by decide +kernel
theorem dX4_init_123 : decode cX4_init 123 = .ok (.putfield 38, 3) := by decide +kernel
theorem dX4_init_126 : decode cX4_init 126 = .ok (.aload_n 0, 1) := by decide +kernel
theorem dX4_init_127 : decode cX4_init 127 = .ok (.bipush 6, 2) := by decide +kernel
theorem dX4_init_129 : decode cX4_init 129 = .ok (.newarray .int, 2) := by decide +kernel
theorem dX4_init_131 : decode cX4_init 131 = .ok (.putfield 41, 3) := by decide +kernel
theorem dX4_init_134 : decode cX4_init 134 = .ok (.aload_n 0, 1) := by decide +kernel
theorem dX4_init_135 : decode cX4_init 135 = .ok (.bipush 20, 2) := by decide +kernel
theorem dX4_init_137 : decode cX4_init 137 = .ok (.newarray .int, 2) := by decide +kernel
theorem dX4_init_139 : decode cX4_init 139 = .ok (.putfield 44, 3) := by decide +kernel
theorem dX4_init_142 : decode cX4_init 142 = .ok (.aload_n 0, 1) := by decide +kernel
theorem dX4_init_143 : decode cX4_init 143 = .ok (.bipush 20, 2) := by decide +kernel
theorem dX4_init_145 : decode cX4_init 145 = .ok (.newarray .int, 2) := by decide +kernel
theorem dX4_init_147 : decode cX4_init 147 = .ok (.putfield 47, 3) := by decide +kernel
theorem dX4_init_150 : decode cX4_init 150 = .ok (.aload_n 0, 1) := by decide +kernel
theorem dX4_init_151 : decode cX4_init 151 = .ok (.bipush 20, 2) := by decide +kernel
theorem dX4_init_153 : decode cX4_init 153 = .ok (.newarray .int, 2) := by decide +kernel
theorem dX4_init_155 : decode cX4_init 155 = .ok (.putfield 50, 3) := by decide +kernel
theorem dX4_init_158 : decode cX4_init 158 = .ok (.aload_n 0, 1) := by decide +kernel
theorem dX4_init_159 : decode cX4_init 159 = .ok (.bipush 20, 2) := by decide +kernel
theorem dX4_init_161 : decode cX4_init 161 = .ok (.newarray .int, 2) := by decide +kernel
theorem dX4_init_163 : decode cX4_init 163 = .ok (.putfield 53, 3) := by decide +kernel
theorem dX4_init_166 : decode cX4_init 166 = .ok (.aload_n 0, 1) := by decide +kernel
theorem dX4_init_167 : decode cX4_init 167 = .ok (.bipush 20, 2) := by decide +kernel
theorem dX4_init_169 : decode cX4_init 169 = .ok (.newarray .int, 2) := by decide +kernel
theorem dX4_init_171 : decode cX4_init 171 = .ok (.putfield 56, 3) := by decide +kernel
theorem dX4_init_174 : decode cX4_init 174 = .ok (.aload_n 0, 1) := by decide +kernel
theorem dX4_init_175 : decode cX4_init 175 = .ok (.bipush 20, 2) := by decide +kernel
theorem dX4_init_177 : decode cX4_init 177 = .ok (.newarray .int, 2) := by decide +kernel
theorem dX4_init_179 : decode cX4_init 179 = .ok (.putfield 59, 3) := by decide +kernel
theorem dX4_init_182 : decode cX4_init 182 = .ok (.aload_n 0, 1) := by decide +kernel
theorem dX4_init_183 : decode cX4_init 183 = .ok (.bipush 20, 2) := by decide +kernel
theorem dX4_init_185 : decode cX4_init 185 = .ok (.newarray .int, 2) := by decide +kernel
theorem dX4_init_187 : decode cX4_init 187 = .ok (.putfield 62, 3) := by decide +kernel
theorem dX4_init_190 : decode cX4_init 190 = .ok (.aload_n 0, 1) := by decide +kernel
theorem dX4_init_191 : decode cX4_init 191 = .ok (.bipush 20, 2) := by decide +kernel
theorem dX4_init_193 : decode cX4_init 193 = .ok (.newarray .int, 2) := by decide +kernel
theorem dX4_init_195 : decode cX4_init 195 = .ok (.putfield 65, 3) := by decide +kernel
theorem dX4_init_198 : decode cX4_init 198 = .ok (.aload_n 0, 1) := by decide +kernel
theorem dX4_init_199 : decode cX4_init 199 = .ok (.bipush 20, 2) := by decide +kernel
theorem dX4_init_201 : decode cX4_init 201 = .ok (.newarray .int, 2) := by decide +kernel
theorem dX4_init_203 : decode cX4_init 203 = .ok (.putfield 68, 3) := by decide +kernel
theorem dX4_init_206 : decode cX4_init 206 = .ok (.aload_n 0, 1) := by decide +kernel
theorem dX4_init_207 : decode cX4_init 207 = .ok (.bipush 20, 2) := by decide +kernel
theorem dX4_init_209 : decode cX4_init 209 = .ok (.newarray .int, 2) := by decide +kernel
theorem dX4_init_211 : decode cX4_init 211 = .ok (.putfield 71, 3) := by decide +kernel
theorem dX4_init_214 : decode cX4_init 214 = .ok (.aload_n 0, 1) := by decide +kernel
theorem dX4_init_215 : decode cX4_init 215 = .ok (.bipush 20, 2) := by decide +kernel
theorem dX4_init_217 : decode cX4_init 217 = .ok (.newarray .int, 2) := by decide +kernel
theorem dX4_init_219 : decode cX4_init 219 = .ok (.putfield 74, 3) := by decide +kernel
theorem dX4_init_222 : decode cX4_init 222 = .ok (.return_, 1) := by decide +kernel
theorem dX4_thrown_0 : decode cX4_thrown 0 = .ok (.aload_n 0, 1) := by decide +kernel
theorem dX4_thrown_1 : decode cX4_thrown 1 = .ok (.getfield 77, 3) := by decide +kernel
theorem dX4_thrown_4 : decode cX4_thrown 4 = .ok (.ireturn, 1) := by decide +kernel
theorem dX4_no_0 : decode cX4_no 0 = .ok (.aload_n 0, 1) := by decide +kernel
theorem dX4_no_1 : decode cX4_no 1 = .ok (.iload_n 1, 1) := by decide +kernel
theorem dX4_no_2 : decode cX4_no 2 = .ok (.putfield 77, 3) := by decide +kernel
theorem dX4_no_5 : decode cX4_no 5 = .ok (.iconst 0, 1) := by decide +kernel
theorem dX4_no_6 : decode cX4_no 6 = .ok (.ireturn, 1) := by decide +kernel
theorem dX4_isIn_0 : decode cX4_isIn 0 = .ok (.iload_n 0, 1) := by decide +kernel
theorem dX4_isIn_1 : decode cX4_isIn 1 = .ok (.iload_n 1, 1) := by decide +kernel
theorem dX4_isIn_2 : decode cX4_isIn 2 = .ok (.if_icmp .lt 12, 3) := by decide +kernel
theorem dX4_isIn_5 : decode cX4_isIn 5 = .ok (.iload_n 0, 1) := by decide +kernel
theorem dX4_isIn_6 : decode cX4_isIn 6 = .ok (.iload_n 2, 1) := by decide +kernel
theorem dX4_isIn_7 : decode cX4_isIn 7 = .ok (.if_icmp .gt 7, 3) := by decide +kernel
theorem dX4_isIn_10 : decode cX4_isIn 10 = .ok (.iconst 1, 1) := by decide +kernel
theorem dX4_isIn_11 : decode cX4_isIn 11 = .ok (.goto 4, 3) := by decide +kernel
theorem dX4_isIn_14 : decode cX4_isIn 14 = .ok (.iconst 0, 1) := by decide +kernel
theorem dX4_isIn_15 : decode cX4_isIn 15 = .ok (.ireturn, 1) := by decide +kernel
theorem dX4_has_0 : decode cX4_has 0 = .ok (.iload_n 0, 1) := by decide +kernel
theorem dX4_has_1 : decode cX4_has 1 = .ok (.iload_n 1, 1) := by decide +kernel
theorem dX4_has_2 : decode cX4_has 2 = .ok (.ishr, 1) := by decide +kernel
theorem dX4_has_3 : decode cX4_has 3 = .ok (.iconst 1, 1) := by decide +kernel
theorem dX4_has_4 : decode cX4_has 4 = .ok (.iand, 1) := by decide +kernel
theorem dX4_has_5 : decode cX4_has 5 = .ok (.iconst 1, 1) := by decide +kernel
theorem dX4_has_6 : decode cX4_has 6 = .ok (.if_icmp .ne 7, 3) := by decide +kernel
theorem dX4_has_9 : decode cX4_has 9 = .ok (.iconst 1, 1) := by decide +kernel
theorem dX4_has_10 : decode cX4_has 10 = .ok (.goto 4, 3) := by decide +kernel
theorem dX4_has_13 : decode cX4_has 13 = .ok (.iconst 0, 1) := by decide +kernel
theorem dX4_has_14 : decode cX4_has 14 = .ok (.ireturn, 1) := by decide +kernel
theorem dX4_isAgent_0 : decode cX4_isAgent 0 = .ok (.iload_n 1, 1) := by decide +kernel
theorem dX4_isAgent_1 : decode cX4_isAgent 1 = .ok (.iconst 0, 1) := by decide +kernel
theorem dX4_isAgent_2 : decode cX4_isAgent 2 = .ok (.aload_n 0, 1) := by decide +kernel
theorem dX4_isAgent_3 : decode cX4_isAgent 3 = .ok (.getfield 80, 3) := by decide +kernel
theorem dX4_isAgent_6 : decode cX4_isAgent 6 = .ok (.iconst 1, 1) := by decide +kernel
theorem dX4_isAgent_7 : decode cX4_isAgent 7 = .ok (.isub, 1) := by decide +kernel
theorem dX4_isAgent_8 : decode cX4_isAgent 8 = .ok (.invokestatic 83, 3) := by decide +kernel
theorem dX4_isAgent_11 : decode cX4_isAgent 11 = .ok (.ireturn, 1) := by decide +kernel
theorem dX4_isTicket_0 : decode cX4_isTicket 0 = .ok (.iload_n 1, 1) := by decide +kernel
theorem dX4_isTicket_1 : decode cX4_isTicket 1 = .ok (.iconst 0, 1) := by decide +kernel
theorem dX4_isTicket_2 : decode cX4_isTicket 2 = .ok (.aload_n 0, 1) := by decide +kernel
theorem dX4_isTicket_3 : decode cX4_isTicket 3 = .ok (.getfield 87, 3) := by decide +kernel
theorem dX4_isTicket_6 : decode cX4_isTicket 6 = .ok (.iconst 1, 1) := by decide +kernel
theorem dX4_isTicket_7 : decode cX4_isTicket 7 = .ok (.isub, 1) := by decide +kernel
theorem dX4_isTicket_8 : decode cX4_isTicket 8 = .ok (.invokestatic 83, 3) := by decide +kernel
theorem dX4_isTicket_11 : decode cX4_isTicket 11 = .ok (.ireturn, 1) := by decide +kernel
theorem dX4_isOpen_0 : decode cX4_isOpen 0 = .ok (.aload_n 0, 1) := by decide +kernel
theorem dX4_isOpen_1 : decode cX4_isOpen 1 = .ok (.getfield 56, 3) := by decide +kernel
theorem dX4_isOpen_4 : decode cX4_isOpen 4 = .ok (.iload_n 1, 1) := by decide +kernel
theorem dX4_isOpen_5 : decode cX4_isOpen 5 = .ok (.iaload, 1) := by decide +kernel
theorem dX4_isOpen_6 : decode cX4_isOpen 6 = .ok (.iconst 3, 1) := by decide +kernel
theorem dX4_isOpen_7 : decode cX4_isOpen 7 = .ok (.if_icmp .ge 7, 3) := by decide +kernel
theorem dX4_isOpen_10 : decode cX4_isOpen 10 = .ok (.iconst 1, 1) := by decide +kernel
theorem dX4_isOpen_11 : decode cX4_isOpen 11 = .ok (.goto 4, 3) := by decide +kernel
theorem dX4_isOpen_14 : decode cX4_isOpen 14 = .ok (.iconst 0, 1) := by decide +kernel
theorem dX4_isOpen_15 : decode cX4_isOpen 15 = .ok (.ireturn, 1) := by decide +kernel
theorem dX4_setHours_0 : decode cX4_setHours 0 = .ok (.aload_n 0, 1) := by decide +kernel
theorem dX4_setHours_1 : decode cX4_setHours 1 = .ok (.iload_n 1, 1) := by decide +kernel
theorem dX4_setHours_2 : decode cX4_setHours 2 = .ok (.iconst 0, 1) := by decide +kernel
theorem dX4_setHours_3 : decode cX4_setHours 3 = .ok (.sipush 1439, 3) := by decide +kernel
theorem dX4_setHours_6 : decode cX4_setHours 6 = .ok (.invokestatic 83, 3) := by decide +kernel
theorem dX4_setHours_9 : decode cX4_setHours 9 = .ok (.ifCond .eq 20, 3) := by decide +kernel
theorem dX4_setHours_12 : decode cX4_setHours 12 = .ok (.iload_n 2, 1) := by decide +kernel
theorem dX4_setHours_13 : decode cX4_setHours 13 = .ok (.iload_n 1, 1) := by decide +kernel
theorem dX4_setHours_14 : decode cX4_setHours 14 = .ok (.iconst 1, 1) := by decide +kernel
theorem dX4_setHours_15 : decode cX4_setHours 15 = .ok (.iadd, 1) := by decide +kernel
theorem dX4_setHours_16 : decode cX4_setHours 16 = .ok (.sipush 1440, 3) := by decide +kernel
theorem dX4_setHours_19 : decode cX4_setHours 19 = .ok (.invokestatic 83, 3) := by decide +kernel
theorem dX4_setHours_22 : decode cX4_setHours 22 = .ok (.ifCond .eq 7, 3) := by decide +kernel
theorem dX4_setHours_25 : decode cX4_setHours 25 = .ok (.iconst 0, 1) := by decide +kernel
theorem dX4_setHours_26 : decode cX4_setHours 26 = .ok (.goto 4, 3) := by decide +kernel
theorem dX4_setHours_29 : decode cX4_setHours 29 = .ok (.iconst 1, 1) := by decide +kernel
theorem dX4_setHours_30 : decode cX4_setHours 30 = .ok (.putfield 77, 3) := by decide +kernel
theorem dX4_setHours_33 : decode cX4_setHours 33 = .ok (.aload_n 0, 1) := by decide +kernel
theorem dX4_setHours_34 : decode cX4_setHours 34 = .ok (.getfield 77, 3) := by decide +kernel
theorem dX4_setHours_37 : decode cX4_setHours 37 = .ok (.ifCond .eq 5, 3) := by decide +kernel
theorem dX4_setHours_40 : decode cX4_setHours 40 = .ok (.iconst 0, 1) := by decide +kernel
theorem dX4_setHours_41 : decode cX4_setHours 41 = .ok (.ireturn, 1) := by decide +kernel
theorem dX4_setHours_42 : decode cX4_setHours 42 = .ok (.aload_n 0, 1) := by decide +kernel
theorem dX4_setHours_43 : decode cX4_setHours 43 = .ok (.getfield 7, 3) := by decide +kernel
theorem dX4_setHours_46 : decode cX4_setHours 46 = .ok (.iload_n 1, 1) := by decide +kernel
theorem dX4_setHours_47 : decode cX4_setHours 47 = .ok (.if_icmp .ne 11, 3) := by decide +kernel
theorem dX4_setHours_50 : decode cX4_setHours 50 = .ok (.aload_n 0, 1) := by decide +kernel
theorem dX4_setHours_51 : decode cX4_setHours 51 = .ok (.getfield 13, 3) := by decide +kernel
theorem dX4_setHours_54 : decode cX4_setHours 54 = .ok (.iload_n 2, 1) := by decide +kernel
theorem dX4_setHours_55 : decode cX4_setHours 55 = .ok (.if_icmp .eq 7, 3) := by decide +kernel
theorem dX4_setHours_58 : decode cX4_setHours 58 = .ok (.iconst 1, 1) := by decide +kernel
theorem dX4_setHours_59 : decode cX4_setHours 59 = .ok (.goto 4, 3) := by decide +kernel
theorem dX4_setHours_62 : decode cX4_setHours 62 = .ok (.iconst 0, 1) := by decide +kernel
theorem dX4_setHours_63 : decode cX4_setHours 63 = .ok (.istore_n 3, 1) := by decide +kernel
theorem dX4_setHours_64 : decode cX4_setHours 64 = .ok (.aload_n 0, 1) := by decide +kernel
theorem dX4_setHours_65 : decode cX4_setHours 65 = .ok (.iload_n 1, 1) := by decide +kernel
theorem dX4_setHours_66 : decode cX4_setHours 66 = .ok (.putfield 7, 3) := by decide +kernel
theorem dX4_setHours_69 : decode cX4_setHours 69 = .ok (.aload_n 0, 1) := by decide +kernel
theorem dX4_setHours_70 : decode cX4_setHours 70 = .ok (.iload_n 2, 1) := by decide +kernel
theorem dX4_setHours_71 : decode cX4_setHours 71 = .ok (.putfield 13, 3) := by decide +kernel
theorem dX4_setHours_74 : decode cX4_setHours 74 = .ok (.iload_n 3, 1) := by decide +kernel
theorem dX4_setHours_75 : decode cX4_setHours 75 = .ok (.ireturn, 1) := by decide +kernel
theorem dX4_setTargets_0 : decode cX4_setTargets 0 = .ok (.aload_n 0, 1) := by decide +kernel
theorem dX4_setTargets_1 : decode cX4_setTargets 1 = .ok (.iconst 0, 1) := by decide +kernel
theorem dX4_setTargets_2 : decode cX4_setTargets 2 = .ok (.putfield 77, 3) := by decide +kernel
theorem dX4_setTargets_5 : decode cX4_setTargets 5 = .ok (.iload_n 1, 1) := by decide +kernel
theorem dX4_setTargets_6 : decode cX4_setTargets 6 = .ok (.iconst 0, 1) := by decide +kernel
theorem dX4_setTargets_7 : decode cX4_setTargets 7 = .ok (.iconst 3, 1) := by decide +kernel
theorem dX4_setTargets_8 : decode cX4_setTargets 8 = .ok (.invokestatic 83, 3) := by decide +kernel
theorem dX4_setTargets_11 : decode cX4_setTargets 11 = .ok (.ifCond .ne 9, 3) := by decide +kernel
theorem dX4_setTargets_14 : decode cX4_setTargets 14 = .ok (.aload_n 0, 1) := by decide +kernel
theorem dX4_setTargets_15 : decode cX4_setTargets 15 = .ok (.iconst 1, 1) := by decide +kernel
theorem dX4_setTargets_16 : decode cX4_setTargets 16 = .ok (.invokevirtual 90, 3) := by decide +kernel
theorem dX4_setTargets_19 : decode cX4_setTargets 19 = .ok (.ireturn, 1) := by decide +kernel
theorem dX4_setTargets_20 : decode cX4_setTargets 20 = .ok (.iload_n 2, 1) := by decide +kernel
theorem dX4_setTargets_21 : decode cX4_setTargets 21 = .ok (.iconst 1, 1) := by decide +kernel
theorem dX4_setTargets_22 : decode cX4_setTargets 22 = .ok (.sipush 9999, 3) := by decide +kernel
theorem dX4_setTargets_25 : decode cX4_setTargets 25 = .ok (.invokestatic 83, 3) := by decide +kernel
theorem dX4_setTargets_28 : decode cX4_setTargets 28 = .ok (.ifCond .eq 14, 3) := by decide +kernel
theorem dX4_setTargets_31 : decode cX4_setTargets 31 = .ok (.iload_n 3, 1) := by decide +kernel
theorem dX4_setTargets_32 : decode cX4_setTargets 32 = .ok (.iload_n 2, 1) := by decide +kernel
theorem dX4_setTargets_33 : decode cX4_setTargets 33 = .ok (.sipush 9999, 3) := by decide +kernel
theorem dX4_setTargets_36 : decode cX4_setTargets 36 = .ok (.invokestatic 83, 3) := by decide +kernel
theorem dX4_setTargets_39 : decode cX4_setTargets 39 = .ok (.ifCond .ne 9, 3) := by decide +kernel
theorem dX4_setTargets_42 : decode cX4_setTargets 42 = .ok (.aload_n 0, 1) := by decide +kernel
theorem dX4_setTargets_43 : decode cX4_setTargets 43 = .ok (.iconst 2, 1) := by decide +kernel
theorem dX4_setTargets_44 : decode cX4_setTargets 44 = .ok (.invokevirtual 90, 3) := by decide +kernel
theorem dX4_setTargets_47 : decode cX4_setTargets 47 = .ok (.ireturn, 1) := by decide +kernel
theorem dX4_setTargets_48 : decode cX4_setTargets 48 = .ok (.aload_n 0, 1) := by decide +kernel
theorem dX4_setTargets_49 : decode cX4_setTargets 49 = .ok (.getfield 20, 3) := by decide +kernel
theorem dX4_setTargets_52 : decode cX4_setTargets 52 = .ok (.iload_n 1, 1) := by decide +kernel
theorem dX4_setTargets_53 : decode cX4_setTargets 53 = .ok (.iaload, 1) := by decide +kernel
theorem dX4_setTargets_54 : decode cX4_setTargets 54 = .ok (.istore 4, 2) := by decide +kernel
theorem dX4_setTargets_56 : decode cX4_setTargets 56 = .ok (.aload_n 0, 1) := by decide +kernel
theorem dX4_setTargets_57 : decode cX4_setTargets 57 = .ok (.getfield 16, 3) := by decide +kernel
theorem dX4_setTargets_60 : decode cX4_setTargets 60 = .ok (.iload_n 1, 1) := by decide +kernel
theorem dX4_setTargets_61 : decode cX4_setTargets 61 = .ok (.iload_n 2, 1) := by decide +kernel
theorem dX4_setTargets_62 : decode cX4_setTargets 62 = .ok (.iastore, 1) := by decide +kernel
theorem dX4_setTargets_63 : decode cX4_setTargets 63 = .ok (.aload_n 0, 1) := by decide +kernel
theorem dX4_setTargets_64 : decode cX4_setTargets 64 = .ok (.getfield 20, 3) := by decide +kernel
theorem dX4_setTargets_67 : decode cX4_setTargets 67 = .ok (.iload_n 1, 1) := by decide +kernel
theorem dX4_setTargets_68 : decode cX4_setTargets 68 = .ok (.iload_n 3, 1) := by decide +kernel
theorem dX4_setTargets_69 : decode cX4_setTargets 69 = .ok (.iastore, 1) := by decide +kernel
theorem dX4_setTargets_70 : decode cX4_setTargets 70 = .ok (.iload 4, 2) := by decide +kernel
theorem dX4_setTargets_72 : decode cX4_setTargets 72 = .ok (.ireturn, 1) := by decide +kernel
theorem dX4_now_0 : decode cX4_now 0 = .ok (.aload_n 0, 1) := by decide +kernel
theorem dX4_now_1 : decode cX4_now 1 = .ok (.iconst 0, 1) := by decide +kernel
theorem dX4_now_2 : decode cX4_now 2 = .ok (.putfield 77, 3) := by decide +kernel
theorem dX4_now_5 : decode cX4_now 5 = .ok (.aload_n 0, 1) := by decide +kernel
theorem dX4_now_6 : decode cX4_now 6 = .ok (.getfield 94, 3) := by decide +kernel
theorem dX4_now_9 : decode cX4_now 9 = .ok (.ireturn, 1) := by decide +kernel
theorem dX4_isService_0 : decode cX4_isService 0 = .ok (.iload_n 1, 1) := by decide +kernel
theorem dX4_isService_1 : decode cX4_isService 1 = .ok (.sipush 1440, 3) := by decide +kernel
theorem dX4_isService_4 : decode cX4_isService 4 = .ok (.idiv, 1) := by decide +kernel
theorem dX4_isService_5 : decode cX4_isService 5 = .ok (.bipush 7, 2) := by decide +kernel
theorem dX4_isService_7 : decode cX4_isService 7 = .ok (.irem, 1) := by decide +kernel
theorem dX4_isService_8 : decode cX4_isService 8 = .ok (.iconst 5, 1) := by decide +kernel
theorem dX4_isService_9 : decode cX4_isService 9 = .ok (.if_icmp .ge 28, 3) := by decide +kernel
theorem dX4_isService_12 : decode cX4_isService 12 = .ok (.iload_n 1, 1) := by decide +kernel
theorem dX4_isService_13 : decode cX4_isService 13 = .ok (.sipush 1440, 3) := by decide +kernel
theorem dX4_isService_16 : decode cX4_isService 16 = .ok (.irem, 1) := by decide +kernel
theorem dX4_isService_17 : decode cX4_isService 17 = .ok (.aload_n 0, 1) := by decide +kernel
theorem dX4_isService_18 : decode cX4_isService 18 = .ok (.getfield 7, 3) := by decide +kernel
theorem dX4_isService_21 : decode cX4_isService 21 = .ok (.aload_n 0, 1) := by decide +kernel
theorem dX4_isService_22 : decode cX4_isService 22 = .ok (.getfield 13, 3) := by decide +kernel
theorem dX4_isService_25 : decode cX4_isService 25 = .ok (.iconst 1, 1) := by decide +kernel
theorem dX4_isService_26 : decode cX4_isService 26 = .ok (.isub, 1) := by decide +kernel
theorem dX4_isService_27 : decode cX4_isService 27 = .ok (.invokestatic 83, 3) := by decide +kernel
theorem dX4_isService_30 : decode cX4_isService 30 = .ok (.ifCond .eq 7, 3) := by decide +kernel
theorem dX4_isService_33 : decode cX4_isService 33 = .ok (.iconst 1, 1) := by decide +kernel
theorem dX4_isService_34 : decode cX4_isService 34 = .ok (.goto 4, 3) := by decide +kernel
theorem dX4_isService_37 : decode cX4_isService 37 = .ok (.iconst 0, 1) := by decide +kernel
theorem dX4_isService_38 : decode cX4_isService 38 = .ok (.ireturn, 1) := by decide +kernel
theorem dX4_serviceAhead_0 : decode cX4_serviceAhead 0 = .ok (.iload_n 1, 1) := by decide +kernel
theorem dX4_serviceAhead_1 : decode cX4_serviceAhead 1 = .ok (.sipush 1440, 3) := by decide +kernel
theorem dX4_serviceAhead_4 : decode cX4_serviceAhead 4 = .ok (.idiv, 1) := by decide +kernel
theorem dX4_serviceAhead_5 : decode cX4_serviceAhead 5 = .ok (.istore_n 2, 1) := by decide +kernel
theorem dX4_serviceAhead_6 : decode cX4_serviceAhead 6 = .ok (.iload_n 2, 1) := by decide +kernel
theorem dX4_serviceAhead_7 : decode cX4_serviceAhead 7 = .ok (.bipush 7, 2) := by decide +kernel
theorem dX4_serviceAhead_9 : decode cX4_serviceAhead 9 = .ok (.idiv, 1) := by decide +kernel
theorem dX4_serviceAhead_10 : decode cX4_serviceAhead 10 = .ok (.iconst 5, 1) := by decide +kernel
theorem dX4_serviceAhead_11 : decode cX4_serviceAhead 11 = .ok (.imul, 1) := by decide +kernel
theorem dX4_serviceAhead_12 : decode cX4_serviceAhead 12 = .ok (.iconst 5, 1) := by decide +kernel
theorem dX4_serviceAhead_13 : decode cX4_serviceAhead 13 = .ok (.iload_n 2, 1) := by decide +kernel
theorem dX4_serviceAhead_14 : decode cX4_serviceAhead 14 = .ok (.bipush 7, 2) := by decide +kernel
theorem dX4_serviceAhead_16 : decode cX4_serviceAhead 16 = .ok (.irem, 1) := by decide +kernel
theorem dX4_serviceAhead_17 : decode cX4_serviceAhead 17 = .ok (.invokestatic 97, 3) := by decide +kernel
theorem dX4_serviceAhead_20 : decode cX4_serviceAhead 20 = .ok (.iadd, 1) := by decide +kernel
theorem dX4_serviceAhead_21 : decode cX4_serviceAhead 21 = .ok (.istore_n 3, 1) := by decide +kernel
theorem dX4_serviceAhead_22 : decode cX4_serviceAhead 22 = .ok (.iload_n 2, 1) := by decide +kernel
theorem dX4_serviceAhead_23 : decode cX4_serviceAhead 23 = .ok (.bipush 7, 2) := by decide +kernel
theorem dX4_serviceAhead_25 : decode cX4_serviceAhead 25 = .ok (.irem, 1) := by decide +kernel
theorem dX4_serviceAhead_26 : decode cX4_serviceAhead 26 = .ok (.iconst 5, 1) := by decide +kernel
theorem dX4_serviceAhead_27 : decode cX4_serviceAhead 27 = .ok (.if_icmp .ge 27, 3) := by decide +kernel
theorem dX4_serviceAhead_30 : decode cX4_serviceAhead 30 = .ok (.iconst 0, 1) := by decide +kernel
theorem dX4_serviceAhead_31 : decode cX4_serviceAhead 31 = .ok (.iload_n 1, 1) := by decide +kernel
theorem dX4_serviceAhead_32 : decode cX4_serviceAhead 32 = .ok (.sipush 1440, 3) := by decide +kernel
theorem dX4_serviceAhead_35 : decode cX4_serviceAhead 35 = .ok (.irem, 1) := by decide +kernel
theorem dX4_serviceAhead_36 : decode cX4_serviceAhead 36 = .ok (.aload_n 0, 1) := by decide +kernel
theorem dX4_serviceAhead_37 : decode cX4_serviceAhead 37 = .ok (.getfield 13, 3) := by decide +kernel
theorem dX4_serviceAhead_40 : decode cX4_serviceAhead 40 = .ok (.invokestatic 97, 3) := by decide +kernel
theorem dX4_serviceAhead_43 : decode cX4_serviceAhead 43 = .ok (.aload_n 0, 1) := by decide +kernel
theorem dX4_serviceAhead_44 : decode cX4_serviceAhead 44 = .ok (.getfield 7, 3) := by decide +kernel
theorem dX4_serviceAhead_47 : decode cX4_serviceAhead 47 = .ok (.isub, 1) := by decide +kernel
theorem dX4_serviceAhead_48 : decode cX4_serviceAhead 48 = .ok (.invokestatic 103, 3) := by decide +kernel
theorem dX4_serviceAhead_51 : decode cX4_serviceAhead 51 = .ok (.goto 4, 3) := by decide +kernel
theorem dX4_serviceAhead_54 : decode cX4_serviceAhead 54 = .ok (.iconst 0, 1) := by decide +kernel
theorem dX4_serviceAhead_55 : decode cX4_serviceAhead 55 = .ok (.istore 4, 2) := by decide +kernel
theorem dX4_serviceAhead_57 : decode cX4_serviceAhead 57 = .ok (.iload_n 3, 1) := by decide +kernel
theorem dX4_serviceAhead_58 : decode cX4_serviceAhead 58 = .ok (.aload_n 0, 1) := by decide +kernel
theorem dX4_serviceAhead_59 : decode cX4_serviceAhead 59 = .ok (.getfield 13, 3) := by decide +kernel
theorem dX4_serviceAhead_62 : decode cX4_serviceAhead 62 = .ok (.aload_n 0, 1) := by decide +kernel
theorem dX4_serviceAhead_63 : decode cX4_serviceAhead 63 = .ok (.getfield 7, 3) := by decide +kernel
theorem dX4_serviceAhead_66 : decode cX4_serviceAhead 66 = .ok (.isub, 1) := by decide +kernel
theorem dX4_serviceAhead_67 : decode cX4_serviceAhead 67 = .ok (.imul, 1) := by decide +kernel
theorem dX4_serviceAhead_68 : decode cX4_serviceAhead 68 = .ok (.iload 4, 2) := by decide +kernel
theorem dX4_serviceAhead_70 : decode cX4_serviceAhead 70 = .ok (.iadd, 1) := by decide +kernel
theorem dX4_serviceAhead_71 : decode cX4_serviceAhead 71 = .ok (.ireturn, 1) := by decide +kernel
theorem dX4_service_0 : decode cX4_service 0 = .ok (.aload_n 0, 1) := by decide +kernel
theorem dX4_service_1 : decode cX4_service 1 = .ok (.iconst 0, 1) := by decide +kernel
theorem dX4_service_2 : decode cX4_service 2 = .ok (.putfield 77, 3) := by decide +kernel
theorem dX4_service_5 : decode cX4_service 5 = .ok (.iload_n 1, 1) := by decide +kernel
theorem dX4_service_6 : decode cX4_service 6 = .ok (.ifCond .lt 28, 3) := by decide +kernel
theorem dX4_service_9 : decode cX4_service 9 = .ok (.iload_n 2, 1) := by decide +kernel
theorem dX4_service_10 : decode cX4_service 10 = .ok (.iload_n 1, 1) := by decide +kernel
theorem dX4_service_11 : decode cX4_service 11 = .ok (.if_icmp .lt 23, 3) := by decide +kernel
theorem dX4_service_14 : decode cX4_service 14 = .ok (.iload_n 2, 1) := by decide +kernel
theorem dX4_service_15 : decode cX4_service 15 = .ok (.ldc 106, 2) := by decide +kernel
theorem dX4_service_17 : decode cX4_service 17 = .ok (.if_icmp .gt 17, 3) := by decide +kernel
theorem dX4_service_20 : decode cX4_service 20 = .ok (.aload_n 0, 1) := by decide +kernel
theorem dX4_service_21 : decode cX4_service 21 = .ok (.iload_n 2, 1) := by decide +kernel
theorem dX4_service_22 : decode cX4_service 22 = .ok (.invokevirtual 107, 3) := by decide +kernel
theorem dX4_service_25 : decode cX4_service 25 = .ok (.aload_n 0, 1) := by decide +kernel
theorem dX4_service_26 : decode cX4_service 26 = .ok (.iload_n 1, 1) := by decide +kernel
theorem dX4_service_27 : decode cX4_service 27 = .ok (.invokevirtual 107, 3) := by decide +kernel
theorem dX4_service_30 : decode cX4_service 30 = .ok (.isub, 1) := by decide +kernel
theorem dX4_service_31 : decode cX4_service 31 = .ok (.goto 8, 3) := by decide +kernel
theorem dX4_service_34 : decode cX4_service 34 = .ok (.aload_n 0, 1) := by decide +kernel
theorem dX4_service_35 : decode cX4_service 35 = .ok (.iconst 1, 1) := by decide +kernel
theorem dX4_service_36 : decode cX4_service 36 = .ok (.invokevirtual 90, 3) := by decide +kernel
theorem dX4_service_39 : decode cX4_service 39 = .ok (.ireturn, 1) := by decide +kernel
theorem dX4_addAgent_0 : decode cX4_addAgent 0 = .ok (.aload_n 0, 1) := by decide +kernel
theorem dX4_addAgent_1 : decode cX4_addAgent 1 = .ok (.iconst 0, 1) := by decide +kernel
theorem dX4_addAgent_2 : decode cX4_addAgent 2 = .ok (.putfield 77, 3) := by decide +kernel
theorem dX4_addAgent_5 : decode cX4_addAgent 5 = .ok (.iload_n 1, 1) := by decide +kernel
theorem dX4_addAgent_6 : decode cX4_addAgent 6 = .ok (.iconst 0, 1) := by decide +kernel
theorem dX4_addAgent_7 : decode cX4_addAgent 7 = .ok (.sipush 255, 3) := by decide +kernel
theorem dX4_addAgent_10 : decode cX4_addAgent 10 = .ok (.invokestatic 83, 3) := by decide +kernel
theorem dX4_addAgent_13 : decode cX4_addAgent 13 = .ok (.ifCond .eq 38, 3) := by decide +kernel
theorem dX4_addAgent_16 : decode cX4_addAgent 16 = .ok (.iload_n 2, 1) := by decide +kernel
theorem dX4_addAgent_17 : decode cX4_addAgent 17 = .ok (.iconst 1, 1) := by decide +kernel
theorem dX4_addAgent_18 : decode cX4_addAgent 18 = .ok (.bipush 127, 2) := by decide +kernel
theorem dX4_addAgent_20 : decode cX4_addAgent 20 = .ok (.invokestatic 83, 3) := by decide +kernel
theorem dX4_addAgent_23 : decode cX4_addAgent 23 = .ok (.ifCond .eq 28, 3) := by decide +kernel
theorem dX4_addAgent_26 : decode cX4_addAgent 26 = .ok (.iload_n 3, 1) := by decide +kernel
theorem dX4_addAgent_27 : decode cX4_addAgent 27 = .ok (.iconst 0, 1) := by decide +kernel
theorem dX4_addAgent_28 : decode cX4_addAgent 28 = .ok (.sipush 1439, 3) := by decide +kernel
theorem dX4_addAgent_31 : decode cX4_addAgent 31 = .ok (.invokestatic 83, 3) := by decide +kernel
theorem dX4_addAgent_34 : decode cX4_addAgent 34 = .ok (.ifCond .eq 17, 3) := by decide +kernel
theorem dX4_addAgent_37 : decode cX4_addAgent 37 = .ok (.iload 4, 2) := by decide +kernel
theorem dX4_addAgent_39 : decode cX4_addAgent 39 = .ok (.iload_n 3, 1) := by decide +kernel
theorem dX4_addAgent_40 : decode cX4_addAgent 40 = .ok (.iconst 1, 1) := by decide +kernel
theorem dX4_addAgent_41 : decode cX4_addAgent 41 = .ok (.iadd, 1) := by decide +kernel
theorem dX4_addAgent_42 : decode cX4_addAgent 42 = .ok (.sipush 1440, 3) := by decide +kernel
theorem dX4_addAgent_45 : decode cX4_addAgent 45 = .ok (.invokestatic 83, 3) := by decide +kernel
theorem dX4_addAgent_48 : decode cX4_addAgent 48 = .ok (.ifCond .ne 9, 3) := by decide +kernel
theorem dX4_addAgent_51 : decode cX4_addAgent 51 = .ok (.aload_n 0, 1) := by decide +kernel
theorem dX4_addAgent_52 : decode cX4_addAgent 52 = .ok (.iconst 1, 1) := by decide +kernel
theorem dX4_addAgent_53 : decode cX4_addAgent 53 = .ok (.invokevirtual 90, 3) := by decide +kernel
theorem dX4_addAgent_56 : decode cX4_addAgent 56 = .ok (.ireturn, 1) := by decide +kernel
theorem dX4_addAgent_57 : decode cX4_addAgent 57 = .ok (.aload_n 0, 1) := by decide +kernel
theorem dX4_addAgent_58 : decode cX4_addAgent 58 = .ok (.getfield 80, 3) := by decide +kernel
theorem dX4_addAgent_61 : decode cX4_addAgent 61 = .ok (.bipush 6, 2) := by decide +kernel
theorem dX4_addAgent_63 : decode cX4_addAgent 63 = .ok (.if_icmp .ne 9, 3) := by decide +kernel
theorem dX4_addAgent_66 : decode cX4_addAgent 66 = .ok (.aload_n 0, 1) := by decide +kernel
theorem dX4_addAgent_67 : decode cX4_addAgent 67 = .ok (.iconst 2, 1) := by decide +kernel
theorem dX4_addAgent_68 : decode cX4_addAgent 68 = .ok (.invokevirtual 90, 3) := by decide +kernel
theorem dX4_addAgent_71 : decode cX4_addAgent 71 = .ok (.ireturn, 1) := by decide +kernel
theorem dX4_addAgent_72 : decode cX4_addAgent 72 = .ok (.aload_n 0, 1) := by decide +kernel
theorem dX4_addAgent_73 : decode cX4_addAgent 73 = .ok (.getfield 23, 3) := by decide +kernel
theorem dX4_addAgent_76 : decode cX4_addAgent 76 = .ok (.aload_n 0, 1) := by decide +kernel
theorem dX4_addAgent_77 : decode cX4_addAgent 77 = .ok (.getfield 80, 3) := by decide +kernel
theorem dX4_addAgent_80 : decode cX4_addAgent 80 = .ok (.iload_n 1, 1) := by decide +kernel
theorem dX4_addAgent_81 : decode cX4_addAgent 81 = .ok (.iastore, 1) := by decide +kernel
theorem dX4_addAgent_82 : decode cX4_addAgent 82 = .ok (.aload_n 0, 1) := by decide +kernel
theorem dX4_addAgent_83 : decode cX4_addAgent 83 = .ok (.getfield 26, 3) := by decide +kernel
theorem dX4_addAgent_86 : decode cX4_addAgent 86 = .ok (.aload_n 0, 1) := by decide +kernel
theorem dX4_addAgent_87 : decode cX4_addAgent 87 = .ok (.getfield 80, 3) := by decide +kernel
theorem dX4_addAgent_90 : decode cX4_addAgent 90 = .ok (.iload_n 2, 1) := by decide +kernel
theorem dX4_addAgent_91 : decode cX4_addAgent 91 = .ok (.iastore, 1) := by decide +kernel
theorem dX4_addAgent_92 : decode cX4_addAgent 92 = .ok (.aload_n 0, 1) := by decide +kernel
theorem dX4_addAgent_93 : decode cX4_addAgent 93 = .ok (.getfield 29, 3) := by decide +kernel
theorem dX4_addAgent_96 : decode cX4_addAgent 96 = .ok (.aload_n 0, 1) := by decide +kernel
theorem dX4_addAgent_97 : decode cX4_addAgent 97 = .ok (.getfield 80, 3) := by decide +kernel
theorem dX4_addAgent_100 : decode cX4_addAgent 100 = .ok (.iload_n 3, 1) := by decide +kernel
theorem dX4_addAgent_101 : decode cX4_addAgent 101 = .ok (.iastore, 1) := by decide +kernel
theorem dX4_addAgent_102 : decode cX4_addAgent 102 = .ok (.aload_n 0, 1) := by decide +kernel
theorem dX4_addAgent_103 : decode cX4_addAgent 103 = .ok (.getfield 32, 3) := by decide +kernel
theorem dX4_addAgent_106 : decode cX4_addAgent 106 = .ok (.aload_n 0, 1) := by decide +kernel
theorem dX4_addAgent_107 : decode cX4_addAgent 107 = .ok (.getfield 80, 3) := by decide +kernel
theorem dX4_addAgent_110 : decode cX4_addAgent 110 = .ok (.iload 4, 2) := by decide +kernel
theorem dX4_addAgent_112 : decode cX4_addAgent 112 = .ok (.iastore, 1) := by decide +kernel
theorem dX4_addAgent_113 : decode cX4_addAgent 113 = .ok (.aload_n 0, 1) := by decide +kernel
theorem dX4_addAgent_114 : decode cX4_addAgent 114 = .ok (.getfield 35, 3) := by decide +kernel
theorem dX4_addAgent_117 : decode cX4_addAgent 117 = .ok (.aload_n 0, 1) := by decide +kernel
theorem dX4_addAgent_118 : decode cX4_addAgent 118 = .ok (.getfield 80, 3) := by decide +kernel
theorem dX4_addAgent_121 : decode cX4_addAgent 121 = .ok (.iconst (-1), 1) := by decide +kernel
theorem dX4_addAgent_122 : decode cX4_addAgent 122 = .ok (.iastore, 1) := by decide +kernel
theorem dX4_addAgent_123 : decode cX4_addAgent 123 = .ok (.aload_n 0, 1) := by decide +kernel
theorem dX4_addAgent_124 : decode cX4_addAgent 124 = .ok (.dup, 1) := by decide +kernel
theorem dX4_addAgent_125 : decode cX4_addAgent 125 = .ok (.getfield 80, 3) := by decide +kernel
theorem dX4_addAgent_128 : decode cX4_addAgent 128 = .ok (.iconst 1, 1) := by decide +kernel
theorem dX4_addAgent_129 : decode cX4_addAgent 129 = .ok (.iadd, 1) := by decide +kernel
theorem dX4_addAgent_130 : decode cX4_addAgent 130 = .ok (.putfield 80, 3) := by decide +kernel
theorem dX4_addAgent_133 : decode cX4_addAgent 133 = .ok (.aload_n 0, 1) := by decide +kernel
theorem dX4_addAgent_134 : decode cX4_addAgent 134 = .ok (.getfield 80, 3) := by decide +kernel
theorem dX4_addAgent_137 : decode cX4_addAgent 137 = .ok (.iconst 1, 1) := by decide +kernel
theorem dX4_addAgent_138 : decode cX4_addAgent 138 = .ok (.isub, 1) := by decide +kernel
theorem dX4_addAgent_139 : decode cX4_addAgent 139 = .ok (.ireturn, 1) := by decide +kernel
theorem dX4_leave_0 : decode cX4_leave 0 = .ok (.iconst 0, 1) := by decide +kernel
theorem dX4_leave_1 : decode cX4_leave 1 = .ok (.istore_n 3, 1) := by decide +kernel
theorem dX4_leave_2 : decode cX4_leave 2 = .ok (.iload_n 3, 1) := by decide +kernel
theorem dX4_leave_3 : decode cX4_leave 3 = .ok (.aload_n 0, 1) := by decide +kernel
theorem dX4_leave_4 : decode cX4_leave 4 = .ok (.getfield 80, 3) := by decide +kernel
theorem dX4_leave_7 : decode cX4_leave 7 = .ok (.if_icmp .ge 26, 3) := by decide +kernel
theorem dX4_leave_10 : decode cX4_leave 10 = .ok (.aload_n 0, 1) := by decide +kernel
theorem dX4_leave_11 : decode cX4_leave 11 = .ok (.getfield 35, 3) := by decide +kernel
theorem dX4_leave_14 : decode cX4_leave 14 = .ok (.iload_n 3, 1) := by decide +kernel
theorem dX4_leave_15 : decode cX4_leave 15 = .ok (.iaload, 1) := by decide +kernel
theorem dX4_leave_16 : decode cX4_leave 16 = .ok (.iload_n 1, 1) := by decide +kernel
theorem dX4_leave_17 : decode cX4_leave 17 = .ok (.if_icmp .ne 10, 3) := by decide +kernel
theorem dX4_leave_20 : decode cX4_leave 20 = .ok (.aload_n 0, 1) := by decide +kernel
theorem dX4_leave_21 : decode cX4_leave 21 = .ok (.getfield 35, 3) := by decide +kernel
theorem dX4_leave_24 : decode cX4_leave 24 = .ok (.iload_n 3, 1) := by decide +kernel
theorem dX4_leave_25 : decode cX4_leave 25 = .ok (.iconst (-1), 1) := by decide +kernel
theorem dX4_leave_26 : decode cX4_leave 26 = .ok (.iastore, 1) := by decide +kernel
theorem dX4_leave_27 : decode cX4_leave 27 = .ok (.iinc 3 1, 3) := by decide +kernel
theorem dX4_leave_30 : decode cX4_leave 30 = .ok (.goto (-28), 3) := by decide +kernel
theorem dX4_leave_33 : decode cX4_leave 33 = .ok (.aload_n 0, 1) := by decide +kernel
theorem dX4_leave_34 : decode cX4_leave 34 = .ok (.getfield 56, 3) := by decide +kernel
theorem dX4_leave_37 : decode cX4_leave 37 = .ok (.iload_n 1, 1) := by decide +kernel
theorem dX4_leave_38 : decode cX4_leave 38 = .ok (.iload_n 2, 1) := by decide +kernel
theorem dX4_leave_39 : decode cX4_leave 39 = .ok (.iastore, 1) := by decide +kernel
theorem dX4_leave_40 : decode cX4_leave 40 = .ok (.return_, 1) := by decide +kernel
theorem dX4_setSkills_0 : decode cX4_setSkills 0 = .ok (.aload_n 0, 1) := by decide +kernel
theorem dX4_setSkills_1 : decode cX4_setSkills 1 = .ok (.iconst 0, 1) := by decide +kernel
theorem dX4_setSkills_2 : decode cX4_setSkills 2 = .ok (.putfield 77, 3) := by decide +kernel
theorem dX4_setSkills_5 : decode cX4_setSkills 5 = .ok (.aload_n 0, 1) := by decide +kernel
theorem dX4_setSkills_6 : decode cX4_setSkills 6 = .ok (.iload_n 1, 1) := by decide +kernel
theorem dX4_setSkills_7 : decode cX4_setSkills 7 = .ok (.invokevirtual 110, 3) := by decide +kernel
theorem dX4_setSkills_10 : decode cX4_setSkills 10 = .ok (.ifCond .ne 9, 3) := by decide +kernel
theorem dX4_setSkills_13 : decode cX4_setSkills 13 = .ok (.aload_n 0, 1) := by decide +kernel
theorem dX4_setSkills_14 : decode cX4_setSkills 14 = .ok (.iconst 1, 1) := by decide +kernel
theorem dX4_setSkills_15 : decode cX4_setSkills 15 = .ok (.invokevirtual 90, 3) := by decide +kernel
theorem dX4_setSkills_18 : decode cX4_setSkills 18 = .ok (.ireturn, 1) := by decide +kernel
theorem dX4_setSkills_19 : decode cX4_setSkills 19 = .ok (.iload_n 2, 1) := by decide +kernel
theorem dX4_setSkills_20 : decode cX4_setSkills 20 = .ok (.iconst 0, 1) := by decide +kernel
theorem dX4_setSkills_21 : decode cX4_setSkills 21 = .ok (.sipush 255, 3) := by decide +kernel
theorem dX4_setSkills_24 : decode cX4_setSkills 24 = .ok (.invokestatic 83, 3) := by decide +kernel
theorem dX4_setSkills_27 : decode cX4_setSkills 27 = .ok (.ifCond .ne 9, 3) := by decide +kernel
theorem dX4_setSkills_30 : decode cX4_setSkills 30 = .ok (.aload_n 0, 1) := by decide +kernel
theorem dX4_setSkills_31 : decode cX4_setSkills 31 = .ok (.iconst 2, 1) := by decide +kernel
theorem dX4_setSkills_32 : decode cX4_setSkills 32 = .ok (.invokevirtual 90, 3) := by decide +kernel
theorem dX4_setSkills_35 : decode cX4_setSkills 35 = .ok (.ireturn, 1) := by decide +kernel
theorem dX4_setSkills_36 : decode cX4_setSkills 36 = .ok (.aload_n 0, 1) := by decide +kernel
theorem dX4_setSkills_37 : decode cX4_setSkills 37 = .ok (.getfield 23, 3) := by decide +kernel
theorem dX4_setSkills_40 : decode cX4_setSkills 40 = .ok (.iload_n 1, 1) := by decide +kernel
theorem dX4_setSkills_41 : decode cX4_setSkills 41 = .ok (.iaload, 1) := by decide +kernel
theorem dX4_setSkills_42 : decode cX4_setSkills 42 = .ok (.istore_n 3, 1) := by decide +kernel
theorem dX4_setSkills_43 : decode cX4_setSkills 43 = .ok (.aload_n 0, 1) := by decide +kernel
theorem dX4_setSkills_44 : decode cX4_setSkills 44 = .ok (.getfield 23, 3) := by decide +kernel
theorem dX4_setSkills_47 : decode cX4_setSkills 47 = .ok (.iload_n 1, 1) := by decide +kernel
theorem dX4_setSkills_48 : decode cX4_setSkills 48 = .ok (.iload_n 2, 1) := by decide +kernel
theorem dX4_setSkills_49 : decode cX4_setSkills 49 = .ok (.iastore, 1) := by decide +kernel
theorem dX4_setSkills_50 : decode cX4_setSkills 50 = .ok (.aload_n 0, 1) := by decide +kernel
theorem dX4_setSkills_51 : decode cX4_setSkills 51 = .ok (.getfield 35, 3) := by decide +kernel
theorem dX4_setSkills_54 : decode cX4_setSkills 54 = .ok (.iload_n 1, 1) := by decide +kernel
theorem dX4_setSkills_55 : decode cX4_setSkills 55 = .ok (.iaload, 1) := by decide +kernel
theorem dX4_setSkills_56 : decode cX4_setSkills 56 = .ok (.iconst (-1), 1) := by decide +kernel
theorem dX4_setSkills_57 : decode cX4_setSkills 57 = .ok (.if_icmp .eq 32, 3) := by decide +kernel
theorem dX4_setSkills_60 : decode cX4_setSkills 60 = .ok (.iload_n 2, 1) := by decide +kernel
theorem dX4_setSkills_61 : decode cX4_setSkills 61 = .ok (.aload_n 0, 1) := by decide +kernel
theorem dX4_setSkills_62 : decode cX4_setSkills 62 = .ok (.getfield 44, 3) := by decide +kernel
theorem dX4_setSkills_65 : decode cX4_setSkills 65 = .ok (.aload_n 0, 1) := by decide +kernel
theorem dX4_setSkills_66 : decode cX4_setSkills 66 = .ok (.getfield 35, 3) := by decide +kernel
theorem dX4_setSkills_69 : decode cX4_setSkills 69 = .ok (.iload_n 1, 1) := by decide +kernel
theorem dX4_setSkills_70 : decode cX4_setSkills 70 = .ok (.iaload, 1) := by decide +kernel
theorem dX4_setSkills_71 : decode cX4_setSkills 71 = .ok (.iaload, 1) := by decide +kernel
theorem dX4_setSkills_72 : decode cX4_setSkills 72 = .ok (.invokestatic 114, 3) := by decide +kernel
theorem dX4_setSkills_75 : decode cX4_setSkills 75 = .ok (.ifCond .ne 14, 3) := by decide +kernel
theorem dX4_setSkills_78 : decode cX4_setSkills 78 = .ok (.aload_n 0, 1) := by decide +kernel
theorem dX4_setSkills_79 : decode cX4_setSkills 79 = .ok (.aload_n 0, 1) := by decide +kernel
theorem dX4_setSkills_80 : decode cX4_setSkills 80 = .ok (.getfield 35, 3) := by decide +kernel
theorem dX4_setSkills_83 : decode cX4_setSkills 83 = .ok (.iload_n 1, 1) := by decide +kernel
theorem dX4_setSkills_84 : decode cX4_setSkills 84 = .ok (.iaload, 1) := by decide +kernel
theorem dX4_setSkills_85 : decode cX4_setSkills 85 = .ok (.iconst 0, 1) := by decide +kernel
theorem dX4_setSkills_86 : decode cX4_setSkills 86 = .ok (.invokevirtual 118, 3) := by decide +kernel
theorem dX4_setSkills_89 : decode cX4_setSkills 89 = .ok (.iload_n 3, 1) := by decide +kernel
theorem dX4_setSkills_90 : decode cX4_setSkills 90 = .ok (.ireturn, 1) := by decide +kernel
theorem dX4_isThere_0 : decode cX4_isThere 0 = .ok (.aload_n 0, 1) := by decide +kernel
theorem dX4_isThere_1 : decode cX4_isThere 1 = .ok (.getfield 26, 3) := by decide +kernel
theorem dX4_isThere_4 : decode cX4_isThere 4 = .ok (.iload_n 1, 1) := by decide +kernel
theorem dX4_isThere_5 : decode cX4_isThere 5 = .ok (.iaload, 1) := by decide +kernel
theorem dX4_isThere_6 : decode cX4_isThere 6 = .ok (.aload_n 0, 1) := by decide +kernel
theorem dX4_isThere_7 : decode cX4_isThere 7 = .ok (.getfield 94, 3) := by decide +kernel
theorem dX4_isThere_10 : decode cX4_isThere 10 = .ok (.sipush 1440, 3) := by decide +kernel
theorem dX4_isThere_13 : decode cX4_isThere 13 = .ok (.idiv, 1) := by decide +kernel
theorem dX4_isThere_14 : decode cX4_isThere 14 = .ok (.bipush 7, 2) := by decide +kernel
theorem dX4_isThere_16 : decode cX4_isThere 16 = .ok (.irem, 1) := by decide +kernel
theorem dX4_isThere_17 : decode cX4_isThere 17 = .ok (.invokestatic 114, 3) := by decide +kernel
theorem dX4_isThere_20 : decode cX4_isThere 20 = .ok (.ifCond .eq 35, 3) := by decide +kernel
theorem dX4_isThere_23 : decode cX4_isThere 23 = .ok (.aload_n 0, 1) := by decide +kernel
theorem dX4_isThere_24 : decode cX4_isThere 24 = .ok (.getfield 94, 3) := by decide +kernel
theorem dX4_isThere_27 : decode cX4_isThere 27 = .ok (.sipush 1440, 3) := by decide +kernel
theorem dX4_isThere_30 : decode cX4_isThere 30 = .ok (.irem, 1) := by decide +kernel
theorem dX4_isThere_31 : decode cX4_isThere 31 = .ok (.aload_n 0, 1) := by decide +kernel
theorem dX4_isThere_32 : decode cX4_isThere 32 = .ok (.getfield 29, 3) := by decide +kernel
theorem dX4_isThere_35 : decode cX4_isThere 35 = .ok (.iload_n 1, 1) := by decide +kernel
theorem dX4_isThere_36 : decode cX4_isThere 36 = .ok (.iaload, 1) := by decide +kernel
theorem dX4_isThere_37 : decode cX4_isThere 37 = .ok (.aload_n 0, 1) := by decide +kernel
theorem dX4_isThere_38 : decode cX4_isThere 38 = .ok (.getfield 32, 3) := by decide +kernel
theorem dX4_isThere_41 : decode cX4_isThere 41 = .ok (.iload_n 1, 1) := by decide +kernel
theorem dX4_isThere_42 : decode cX4_isThere 42 = .ok (.iaload, 1) := by decide +kernel
theorem dX4_isThere_43 : decode cX4_isThere 43 = .ok (.iconst 1, 1) := by decide +kernel
theorem dX4_isThere_44 : decode cX4_isThere 44 = .ok (.isub, 1) := by decide +kernel
theorem dX4_isThere_45 : decode cX4_isThere 45 = .ok (.invokestatic 83, 3) := by decide +kernel
theorem dX4_isThere_48 : decode cX4_isThere 48 = .ok (.ifCond .eq 7, 3) := by decide +kernel
theorem dX4_isThere_51 : decode cX4_isThere 51 = .ok (.iconst 1, 1) := by decide +kernel
theorem dX4_isThere_52 : decode cX4_isThere 52 = .ok (.goto 4, 3) := by decide +kernel
theorem dX4_isThere_55 : decode cX4_isThere 55 = .ok (.iconst 0, 1) := by decide +kernel
theorem dX4_isThere_56 : decode cX4_isThere 56 = .ok (.ireturn, 1) := by decide +kernel
theorem dX4_toldAgent_0 : decode cX4_toldAgent 0 = .ok (.iload_n 2, 1) := by decide +kernel
theorem dX4_toldAgent_1 : decode cX4_toldAgent 1 = .ok (.ifCond .ne 12, 3) := by decide +kernel
theorem dX4_toldAgent_4 : decode cX4_toldAgent 4 = .ok (.aload_n 0, 1) := by decide +kernel
theorem dX4_toldAgent_5 : decode cX4_toldAgent 5 = .ok (.getfield 35, 3) := by decide +kernel
theorem dX4_toldAgent_8 : decode cX4_toldAgent 8 = .ok (.iload_n 1, 1) := by decide +kernel
theorem dX4_toldAgent_9 : decode cX4_toldAgent 9 = .ok (.iaload, 1) := by decide +kernel
theorem dX4_toldAgent_10 : decode cX4_toldAgent 10 = .ok (.goto 44, 3) := by decide +kernel
theorem dX4_toldAgent_13 : decode cX4_toldAgent 13 = .ok (.iload_n 2, 1) := by decide +kernel
theorem dX4_toldAgent_14 : decode cX4_toldAgent 14 = .ok (.iconst 1, 1) := by decide +kernel
theorem dX4_toldAgent_15 : decode cX4_toldAgent 15 = .ok (.if_icmp .ne 12, 3) := by decide +kernel
theorem dX4_toldAgent_18 : decode cX4_toldAgent 18 = .ok (.aload_n 0, 1) := by decide +kernel
theorem dX4_toldAgent_19 : decode cX4_toldAgent 19 = .ok (.getfield 38, 3) := by decide +kernel
theorem dX4_toldAgent_22 : decode cX4_toldAgent 22 = .ok (.iload_n 1, 1) := by decide +kernel
theorem dX4_toldAgent_23 : decode cX4_toldAgent 23 = .ok (.iaload, 1) := by decide +kernel
theorem dX4_toldAgent_24 : decode cX4_toldAgent 24 = .ok (.goto 30, 3) := by decide +kernel
theorem dX4_toldAgent_27 : decode cX4_toldAgent 27 = .ok (.iload_n 2, 1) := by decide +kernel
theorem dX4_toldAgent_28 : decode cX4_toldAgent 28 = .ok (.iconst 2, 1) := by decide +kernel
theorem dX4_toldAgent_29 : decode cX4_toldAgent 29 = .ok (.if_icmp .ne 12, 3) := by decide +kernel
theorem dX4_toldAgent_32 : decode cX4_toldAgent 32 = .ok (.aload_n 0, 1) := by decide +kernel
theorem dX4_toldAgent_33 : decode cX4_toldAgent 33 = .ok (.getfield 41, 3) := by decide +kernel
theorem dX4_toldAgent_36 : decode cX4_toldAgent 36 = .ok (.iload_n 1, 1) := by decide +kernel
theorem dX4_toldAgent_37 : decode cX4_toldAgent 37 = .ok (.iaload, 1) := by decide +kernel
theorem dX4_toldAgent_38 : decode cX4_toldAgent 38 = .ok (.goto 16, 3) := by decide +kernel
theorem dX4_toldAgent_41 : decode cX4_toldAgent 41 = .ok (.aload_n 0, 1) := by decide +kernel
theorem dX4_toldAgent_42 : decode cX4_toldAgent 42 = .ok (.iload_n 1, 1) := by decide +kernel
theorem dX4_toldAgent_43 : decode cX4_toldAgent 43 = .ok (.invokevirtual 122, 3) := by decide +kernel
theorem dX4_toldAgent_46 : decode cX4_toldAgent 46 = .ok (.ifCond .eq 7, 3) := by decide +kernel
theorem dX4_toldAgent_49 : decode cX4_toldAgent 49 = .ok (.iconst 1, 1) := by decide +kernel
theorem dX4_toldAgent_50 : decode cX4_toldAgent 50 = .ok (.goto 4, 3) := by decide +kernel
theorem dX4_toldAgent_53 : decode cX4_toldAgent 53 = .ok (.iconst 0, 1) := by decide +kernel
theorem dX4_toldAgent_54 : decode cX4_toldAgent 54 = .ok (.ireturn, 1) := by decide +kernel
theorem dX4_agent_0 : decode cX4_agent 0 = .ok (.aload_n 0, 1) := by decide +kernel
theorem dX4_agent_1 : decode cX4_agent 1 = .ok (.iconst 0, 1) := by decide +kernel
theorem dX4_agent_2 : decode cX4_agent 2 = .ok (.putfield 77, 3) := by decide +kernel
theorem dX4_agent_5 : decode cX4_agent 5 = .ok (.aload_n 0, 1) := by decide +kernel
theorem dX4_agent_6 : decode cX4_agent 6 = .ok (.iload_n 1, 1) := by decide +kernel
theorem dX4_agent_7 : decode cX4_agent 7 = .ok (.invokevirtual 110, 3) := by decide +kernel
theorem dX4_agent_10 : decode cX4_agent 10 = .ok (.ifCond .eq 21, 3) := by decide +kernel
theorem dX4_agent_13 : decode cX4_agent 13 = .ok (.iload_n 2, 1) := by decide +kernel
theorem dX4_agent_14 : decode cX4_agent 14 = .ok (.iconst 0, 1) := by decide +kernel
theorem dX4_agent_15 : decode cX4_agent 15 = .ok (.iconst 3, 1) := by decide +kernel
theorem dX4_agent_16 : decode cX4_agent 16 = .ok (.invokestatic 83, 3) := by decide +kernel
theorem dX4_agent_19 : decode cX4_agent 19 = .ok (.ifCond .eq 12, 3) := by decide +kernel
theorem dX4_agent_22 : decode cX4_agent 22 = .ok (.aload_n 0, 1) := by decide +kernel
theorem dX4_agent_23 : decode cX4_agent 23 = .ok (.iload_n 1, 1) := by decide +kernel
theorem dX4_agent_24 : decode cX4_agent 24 = .ok (.iload_n 2, 1) := by decide +kernel
theorem dX4_agent_25 : decode cX4_agent 25 = .ok (.invokevirtual 125, 3) := by decide +kernel
theorem dX4_agent_28 : decode cX4_agent 28 = .ok (.goto 8, 3) := by decide +kernel
theorem dX4_agent_31 : decode cX4_agent 31 = .ok (.aload_n 0, 1) := by decide +kernel
theorem dX4_agent_32 : decode cX4_agent 32 = .ok (.iconst 1, 1) := by decide +kernel
theorem dX4_agent_33 : decode cX4_agent 33 = .ok (.invokevirtual 90, 3) := by decide +kernel
theorem dX4_agent_36 : decode cX4_agent 36 = .ok (.ireturn, 1) := by decide +kernel
theorem dX4_slack_0 : decode cX4_slack 0 = .ok (.aload_n 0, 1) := by decide +kernel
theorem dX4_slack_1 : decode cX4_slack 1 = .ok (.getfield 20, 3) := by decide +kernel
theorem dX4_slack_4 : decode cX4_slack 4 = .ok (.aload_n 0, 1) := by decide +kernel
theorem dX4_slack_5 : decode cX4_slack 5 = .ok (.getfield 47, 3) := by decide +kernel
theorem dX4_slack_8 : decode cX4_slack 8 = .ok (.iload_n 1, 1) := by decide +kernel
theorem dX4_slack_9 : decode cX4_slack 9 = .ok (.iaload, 1) := by decide +kernel
theorem dX4_slack_10 : decode cX4_slack 10 = .ok (.iaload, 1) := by decide +kernel
theorem dX4_slack_11 : decode cX4_slack 11 = .ok (.aload_n 0, 1) := by decide +kernel
theorem dX4_slack_12 : decode cX4_slack 12 = .ok (.getfield 59, 3) := by decide +kernel
theorem dX4_slack_15 : decode cX4_slack 15 = .ok (.iload_n 1, 1) := by decide +kernel
theorem dX4_slack_16 : decode cX4_slack 16 = .ok (.iaload, 1) := by decide +kernel
theorem dX4_slack_17 : decode cX4_slack 17 = .ok (.isub, 1) := by decide +kernel
theorem dX4_slack_18 : decode cX4_slack 18 = .ok (.ireturn, 1) := by decide +kernel
theorem dX4_likes_0 : decode cX4_likes 0 = .ok (.aload_n 0, 1) := by decide +kernel
theorem dX4_likes_1 : decode cX4_likes 1 = .ok (.getfield 65, 3) := by decide +kernel
theorem dX4_likes_4 : decode cX4_likes 4 = .ok (.iload_n 2, 1) := by decide +kernel
theorem dX4_likes_5 : decode cX4_likes 5 = .ok (.iaload, 1) := by decide +kernel
theorem dX4_likes_6 : decode cX4_likes 6 = .ok (.iload_n 1, 1) := by decide +kernel
theorem dX4_likes_7 : decode cX4_likes 7 = .ok (.if_icmp .ne 7, 3) := by decide +kernel
theorem dX4_likes_10 : decode cX4_likes 10 = .ok (.iconst 1, 1) := by decide +kernel
theorem dX4_likes_11 : decode cX4_likes 11 = .ok (.goto 4, 3) := by decide +kernel
theorem dX4_likes_14 : decode cX4_likes 14 = .ok (.iconst 0, 1) := by decide +kernel
theorem dX4_likes_15 : decode cX4_likes 15 = .ok (.istore 4, 2) := by decide +kernel
theorem dX4_likes_17 : decode cX4_likes 17 = .ok (.iload 4, 2) := by decide +kernel
theorem dX4_likes_19 : decode cX4_likes 19 = .ok (.aload_n 0, 1) := by decide +kernel
theorem dX4_likes_20 : decode cX4_likes 20 = .ok (.getfield 65, 3) := by decide +kernel
theorem dX4_likes_23 : decode cX4_likes 23 = .ok (.iload_n 3, 1) := by decide +kernel
theorem dX4_likes_24 : decode cX4_likes 24 = .ok (.iaload, 1) := by decide +kernel
theorem dX4_likes_25 : decode cX4_likes 25 = .ok (.iload_n 1, 1) := by decide +kernel
theorem dX4_likes_26 : decode cX4_likes 26 = .ok (.if_icmp .ne 7, 3) := by decide +kernel
theorem dX4_likes_29 : decode cX4_likes 29 = .ok (.iconst 1, 1) := by decide +kernel
theorem dX4_likes_30 : decode cX4_likes 30 = .ok (.goto 4, 3) := by decide +kernel
theorem dX4_likes_33 : decode cX4_likes 33 = .ok (.iconst 0, 1) := by decide +kernel
theorem dX4_likes_34 : decode cX4_likes 34 = .ok (.if_icmp .eq 6, 3) := by decide +kernel
theorem dX4_likes_37 : decode cX4_likes 37 = .ok (.iload 4, 2) := by decide +kernel
theorem dX4_likes_39 : decode cX4_likes 39 = .ok (.ireturn, 1) := by decide +kernel
theorem dX4_likes_40 : decode cX4_likes 40 = .ok (.aload_n 0, 1) := by decide +kernel
theorem dX4_likes_41 : decode cX4_likes 41 = .ok (.iload_n 2, 1) := by decide +kernel
theorem dX4_likes_42 : decode cX4_likes 42 = .ok (.invokevirtual 128, 3) := by decide +kernel
theorem dX4_likes_45 : decode cX4_likes 45 = .ok (.aload_n 0, 1) := by decide +kernel
theorem dX4_likes_46 : decode cX4_likes 46 = .ok (.iload_n 3, 1) := by decide +kernel
theorem dX4_likes_47 : decode cX4_likes 47 = .ok (.invokevirtual 128, 3) := by decide +kernel
theorem dX4_likes_50 : decode cX4_likes 50 = .ok (.if_icmp .ge 7, 3) := by decide +kernel
theorem dX4_likes_53 : decode cX4_likes 53 = .ok (.iconst 1, 1) := by decide +kernel
theorem dX4_likes_54 : decode cX4_likes 54 = .ok (.goto 4, 3) := by decide +kernel
theorem dX4_likes_57 : decode cX4_likes 57 = .ok (.iconst 0, 1) := by decide +kernel
theorem dX4_likes_58 : decode cX4_likes 58 = .ok (.ireturn, 1) := by decide +kernel
theorem dX4_nextOf_0 : decode cX4_nextOf 0 = .ok (.iconst (-1), 1) := by decide +kernel
theorem dX4_nextOf_1 : decode cX4_nextOf 1 = .ok (.istore_n 2, 1) := by decide +kernel
theorem dX4_nextOf_2 : decode cX4_nextOf 2 = .ok (.iconst 0, 1) := by decide +kernel
theorem dX4_nextOf_3 : decode cX4_nextOf 3 = .ok (.istore_n 3, 1) := by decide +kernel
theorem dX4_nextOf_4 : decode cX4_nextOf 4 = .ok (.iload_n 3, 1) := by decide +kernel
theorem dX4_nextOf_5 : decode cX4_nextOf 5 = .ok (.aload_n 0, 1) := by decide +kernel
theorem dX4_nextOf_6 : decode cX4_nextOf 6 = .ok (.getfield 87, 3) := by decide +kernel
theorem dX4_nextOf_9 : decode cX4_nextOf 9 = .ok (.if_icmp .ge 53, 3) := by decide +kernel
theorem dX4_nextOf_12 : decode cX4_nextOf 12 = .ok (.aload_n 0, 1) := by decide +kernel
theorem dX4_nextOf_13 : decode cX4_nextOf 13 = .ok (.getfield 56, 3) := by decide +kernel
theorem dX4_nextOf_16 : decode cX4_nextOf 16 = .ok (.iload_n 3, 1) := by decide +kernel
theorem dX4_nextOf_17 : decode cX4_nextOf 17 = .ok (.iaload, 1) := by decide +kernel
theorem dX4_nextOf_18 : decode cX4_nextOf 18 = .ok (.ifCond .ne 38, 3) := by decide +kernel
theorem dX4_nextOf_21 : decode cX4_nextOf 21 = .ok (.aload_n 0, 1) := by decide +kernel
theorem dX4_nextOf_22 : decode cX4_nextOf 22 = .ok (.getfield 23, 3) := by decide +kernel
theorem dX4_nextOf_25 : decode cX4_nextOf 25 = .ok (.iload_n 1, 1) := by decide +kernel
theorem dX4_nextOf_26 : decode cX4_nextOf 26 = .ok (.iaload, 1) := by decide +kernel
theorem dX4_nextOf_27 : decode cX4_nextOf 27 = .ok (.aload_n 0, 1) := by decide +kernel
theorem dX4_nextOf_28 : decode cX4_nextOf 28 = .ok (.getfield 44, 3) := by decide +kernel
theorem dX4_nextOf_31 : decode cX4_nextOf 31 = .ok (.iload_n 3, 1) := by decide +kernel
theorem dX4_nextOf_32 : decode cX4_nextOf 32 = .ok (.iaload, 1) := by decide +kernel
theorem dX4_nextOf_33 : decode cX4_nextOf 33 = .ok (.invokestatic 114, 3) := by decide +kernel
theorem dX4_nextOf_36 : decode cX4_nextOf 36 = .ok (.ifCond .eq 20, 3) := by decide +kernel
theorem dX4_nextOf_39 : decode cX4_nextOf 39 = .ok (.iload_n 2, 1) := by decide +kernel
theorem dX4_nextOf_40 : decode cX4_nextOf 40 = .ok (.iconst (-1), 1) := by decide +kernel
theorem dX4_nextOf_41 : decode cX4_nextOf 41 = .ok (.if_icmp .eq 13, 3) := by decide +kernel
theorem dX4_nextOf_44 : decode cX4_nextOf 44 = .ok (.aload_n 0, 1) := by decide +kernel
theorem dX4_nextOf_45 : decode cX4_nextOf 45 = .ok (.iload_n 1, 1) := by decide +kernel
theorem dX4_nextOf_46 : decode cX4_nextOf 46 = .ok (.iload_n 3, 1) := by decide +kernel
theorem dX4_nextOf_47 : decode cX4_nextOf 47 = .ok (.iload_n 2, 1) := by decide +kernel
theorem dX4_nextOf_48 : decode cX4_nextOf 48 = .ok (.invokevirtual 131, 3) := by decide +kernel
theorem dX4_nextOf_51 : decode cX4_nextOf 51 = .ok (.ifCond .eq 5, 3) := by decide +kernel
theorem dX4_nextOf_54 : decode cX4_nextOf 54 = .ok (.iload_n 3, 1) := by decide +kernel
theorem dX4_nextOf_55 : decode cX4_nextOf 55 = .ok (.istore_n 2, 1) := by decide +kernel
theorem dX4_nextOf_56 : decode cX4_nextOf 56 = .ok (.iinc 3 1, 3) := by decide +kernel
theorem dX4_nextOf_59 : decode cX4_nextOf 59 = .ok (.goto (-55), 3) := by decide +kernel
theorem dX4_nextOf_62 : decode cX4_nextOf 62 = .ok (.iload_n 2, 1) := by decide +kernel
theorem dX4_nextOf_63 : decode cX4_nextOf 63 = .ok (.ireturn, 1) := by decide +kernel
theorem dX4_next_0 : decode cX4_next 0 = .ok (.aload_n 0, 1) := by decide +kernel
theorem dX4_next_1 : decode cX4_next 1 = .ok (.iconst 0, 1) := by decide +kernel
theorem dX4_next_2 : decode cX4_next 2 = .ok (.putfield 77, 3) := by decide +kernel
theorem dX4_next_5 : decode cX4_next 5 = .ok (.aload_n 0, 1) := by decide +kernel
theorem dX4_next_6 : decode cX4_next 6 = .ok (.iload_n 1, 1) := by decide +kernel
theorem dX4_next_7 : decode cX4_next 7 = .ok (.invokevirtual 110, 3) := by decide +kernel
theorem dX4_next_10 : decode cX4_next 10 = .ok (.ifCond .eq 11, 3) := by decide +kernel
theorem dX4_next_13 : decode cX4_next 13 = .ok (.aload_n 0, 1) := by decide +kernel
theorem dX4_next_14 : decode cX4_next 14 = .ok (.iload_n 1, 1) := by decide +kernel
theorem dX4_next_15 : decode cX4_next 15 = .ok (.invokevirtual 134, 3) := by decide +kernel
theorem dX4_next_18 : decode cX4_next 18 = .ok (.goto 8, 3) := by decide +kernel
theorem dX4_next_21 : decode cX4_next 21 = .ok (.aload_n 0, 1) := by decide +kernel
theorem dX4_next_22 : decode cX4_next 22 = .ok (.iconst 1, 1) := by decide +kernel
theorem dX4_next_23 : decode cX4_next 23 = .ok (.invokevirtual 90, 3) := by decide +kernel
theorem dX4_next_26 : decode cX4_next 26 = .ok (.ireturn, 1) := by decide +kernel
theorem dX4_open_0 : decode cX4_open 0 = .ok (.aload_n 0, 1) := by decide +kernel
theorem dX4_open_1 : decode cX4_open 1 = .ok (.iconst 0, 1) := by decide +kernel
theorem dX4_open_2 : decode cX4_open 2 = .ok (.putfield 77, 3) := by decide +kernel
theorem dX4_open_5 : decode cX4_open 5 = .ok (.iload_n 1, 1) := by decide +kernel
theorem dX4_open_6 : decode cX4_open 6 = .ok (.iconst 0, 1) := by decide +kernel
theorem dX4_open_7 : decode cX4_open 7 = .ok (.bipush 7, 2) := by decide +kernel
theorem dX4_open_9 : decode cX4_open 9 = .ok (.invokestatic 83, 3) := by decide +kernel
theorem dX4_open_12 : decode cX4_open 12 = .ok (.ifCond .eq 34, 3) := by decide +kernel
theorem dX4_open_15 : decode cX4_open 15 = .ok (.iload_n 2, 1) := by decide +kernel
theorem dX4_open_16 : decode cX4_open 16 = .ok (.iconst 0, 1) := by decide +kernel
theorem dX4_open_17 : decode cX4_open 17 = .ok (.iconst 3, 1) := by decide +kernel
theorem dX4_open_18 : decode cX4_open 18 = .ok (.invokestatic 83, 3) := by decide +kernel
theorem dX4_open_21 : decode cX4_open 21 = .ok (.ifCond .eq 25, 3) := by decide +kernel
theorem dX4_open_24 : decode cX4_open 24 = .ok (.iload_n 3, 1) := by decide +kernel
theorem dX4_open_25 : decode cX4_open 25 = .ok (.iconst 1, 1) := by decide +kernel
theorem dX4_open_26 : decode cX4_open 26 = .ok (.sipush 600, 3) := by decide +kernel
theorem dX4_open_29 : decode cX4_open 29 = .ok (.invokestatic 83, 3) := by decide +kernel
theorem dX4_open_32 : decode cX4_open 32 = .ok (.ifCond .eq 14, 3) := by decide +kernel
theorem dX4_open_35 : decode cX4_open 35 = .ok (.iload 4, 2) := by decide +kernel
theorem dX4_open_37 : decode cX4_open 37 = .ok (.iconst 0, 1) := by decide +kernel
theorem dX4_open_38 : decode cX4_open 38 = .ok (.bipush 9, 2) := by decide +kernel
theorem dX4_open_40 : decode cX4_open 40 = .ok (.invokestatic 83, 3) := by decide +kernel
theorem dX4_open_43 : decode cX4_open 43 = .ok (.ifCond .ne 9, 3) := by decide +kernel
theorem dX4_open_46 : decode cX4_open 46 = .ok (.aload_n 0, 1) := by decide +kernel
theorem dX4_open_47 : decode cX4_open 47 = .ok (.iconst 1, 1) := by decide +kernel
theorem dX4_open_48 : decode cX4_open 48 = .ok (.invokevirtual 90, 3) := by decide +kernel
theorem dX4_open_51 : decode cX4_open 51 = .ok (.ireturn, 1) := by decide +kernel
theorem dX4_open_52 : decode cX4_open 52 = .ok (.aload_n 0, 1) := by decide +kernel
theorem dX4_open_53 : decode cX4_open 53 = .ok (.getfield 87, 3) := by decide +kernel
theorem dX4_open_56 : decode cX4_open 56 = .ok (.bipush 20, 2) := by decide +kernel
theorem dX4_open_58 : decode cX4_open 58 = .ok (.if_icmp .ne 9, 3) := by decide +kernel
theorem dX4_open_61 : decode cX4_open 61 = .ok (.aload_n 0, 1) := by decide +kernel
theorem dX4_open_62 : decode cX4_open 62 = .ok (.iconst 2, 1) := by decide +kernel
theorem dX4_open_63 : decode cX4_open 63 = .ok (.invokevirtual 90, 3) := by decide +kernel
theorem dX4_open_66 : decode cX4_open 66 = .ok (.ireturn, 1) := by decide +kernel
theorem dX4_open_67 : decode cX4_open 67 = .ok (.aload_n 0, 1) := by decide +kernel
theorem dX4_open_68 : decode cX4_open 68 = .ok (.getfield 44, 3) := by decide +kernel
theorem dX4_open_71 : decode cX4_open 71 = .ok (.aload_n 0, 1) := by decide +kernel
theorem dX4_open_72 : decode cX4_open 72 = .ok (.getfield 87, 3) := by decide +kernel
theorem dX4_open_75 : decode cX4_open 75 = .ok (.iload_n 1, 1) := by decide +kernel
theorem dX4_open_76 : decode cX4_open 76 = .ok (.iastore, 1) := by decide +kernel
theorem dX4_open_77 : decode cX4_open 77 = .ok (.aload_n 0, 1) := by decide +kernel
theorem dX4_open_78 : decode cX4_open 78 = .ok (.getfield 47, 3) := by decide +kernel
theorem dX4_open_81 : decode cX4_open 81 = .ok (.aload_n 0, 1) := by decide +kernel
theorem dX4_open_82 : decode cX4_open 82 = .ok (.getfield 87, 3) := by decide +kernel
theorem dX4_open_85 : decode cX4_open 85 = .ok (.iload_n 2, 1) := by decide +kernel
theorem dX4_open_86 : decode cX4_open 86 = .ok (.iastore, 1) := by decide +kernel
theorem dX4_open_87 : decode cX4_open 87 = .ok (.aload_n 0, 1) := by decide +kernel
theorem dX4_open_88 : decode cX4_open 88 = .ok (.getfield 50, 3) := by decide +kernel
theorem dX4_open_91 : decode cX4_open 91 = .ok (.aload_n 0, 1) := by decide +kernel
theorem dX4_open_92 : decode cX4_open 92 = .ok (.getfield 87, 3) := by decide +kernel
theorem dX4_open_95 : decode cX4_open 95 = .ok (.iload_n 3, 1) := by decide +kernel
theorem dX4_open_96 : decode cX4_open 96 = .ok (.iastore, 1) := by decide +kernel
theorem dX4_open_97 : decode cX4_open 97 = .ok (.aload_n 0, 1) := by decide +kernel
theorem dX4_open_98 : decode cX4_open 98 = .ok (.getfield 53, 3) := by decide +kernel
theorem dX4_open_101 : decode cX4_open 101 = .ok (.aload_n 0, 1) := by decide +kernel
theorem dX4_open_102 : decode cX4_open 102 = .ok (.getfield 87, 3) := by decide +kernel
theorem dX4_open_105 : decode cX4_open 105 = .ok (.iload 4, 2) := by decide +kernel
theorem dX4_open_107 : decode cX4_open 107 = .ok (.iastore, 1) := by decide +kernel
theorem dX4_open_108 : decode cX4_open 108 = .ok (.aload_n 0, 1) := by decide +kernel
theorem dX4_open_109 : decode cX4_open 109 = .ok (.getfield 65, 3) := by decide +kernel
theorem dX4_open_112 : decode cX4_open 112 = .ok (.aload_n 0, 1) := by decide +kernel
theorem dX4_open_113 : decode cX4_open 113 = .ok (.getfield 87, 3) := by decide +kernel
theorem dX4_open_116 : decode cX4_open 116 = .ok (.iconst (-1), 1) := by decide +kernel
theorem dX4_open_117 : decode cX4_open 117 = .ok (.iastore, 1) := by decide +kernel
theorem dX4_open_118 : decode cX4_open 118 = .ok (.aload_n 0, 1) := by decide +kernel
theorem dX4_open_119 : decode cX4_open 119 = .ok (.getfield 68, 3) := by decide +kernel
theorem dX4_open_122 : decode cX4_open 122 = .ok (.aload_n 0, 1) := by decide +kernel
theorem dX4_open_123 : decode cX4_open 123 = .ok (.getfield 87, 3) := by decide +kernel
theorem dX4_open_126 : decode cX4_open 126 = .ok (.iconst (-1), 1) := by decide +kernel
theorem dX4_open_127 : decode cX4_open 127 = .ok (.iastore, 1) := by decide +kernel
theorem dX4_open_128 : decode cX4_open 128 = .ok (.aload_n 0, 1) := by decide +kernel
theorem dX4_open_129 : decode cX4_open 129 = .ok (.dup, 1) := by decide +kernel
theorem dX4_open_130 : decode cX4_open 130 = .ok (.getfield 87, 3) := by decide +kernel
theorem dX4_open_133 : decode cX4_open 133 = .ok (.iconst 1, 1) := by decide +kernel
theorem dX4_open_134 : decode cX4_open 134 = .ok (.iadd, 1) := by decide +kernel
theorem dX4_open_135 : decode cX4_open 135 = .ok (.putfield 87, 3) := by decide +kernel
theorem dX4_open_138 : decode cX4_open 138 = .ok (.aload_n 0, 1) := by decide +kernel
theorem dX4_open_139 : decode cX4_open 139 = .ok (.getfield 87, 3) := by decide +kernel
theorem dX4_open_142 : decode cX4_open 142 = .ok (.iconst 1, 1) := by decide +kernel
theorem dX4_open_143 : decode cX4_open 143 = .ok (.isub, 1) := by decide +kernel
theorem dX4_open_144 : decode cX4_open 144 = .ok (.ireturn, 1) := by decide +kernel
theorem dX4_setPriority_0 : decode cX4_setPriority 0 = .ok (.aload_n 0, 1) := by decide +kernel
theorem dX4_setPriority_1 : decode cX4_setPriority 1 = .ok (.iconst 0, 1) := by decide +kernel
theorem dX4_setPriority_2 : decode cX4_setPriority 2 = .ok (.putfield 77, 3) := by decide +kernel
theorem dX4_setPriority_5 : decode cX4_setPriority 5 = .ok (.aload_n 0, 1) := by decide +kernel
theorem dX4_setPriority_6 : decode cX4_setPriority 6 = .ok (.iload_n 1, 1) := by decide +kernel
theorem dX4_setPriority_7 : decode cX4_setPriority 7 = .ok (.invokevirtual 137, 3) := by decide +kernel
theorem dX4_setPriority_10 : decode cX4_setPriority 10 = .ok (.ifCond .ne 9, 3) := by decide +kernel
theorem dX4_setPriority_13 : decode cX4_setPriority 13 = .ok (.aload_n 0, 1) := by decide +kernel
theorem dX4_setPriority_14 : decode cX4_setPriority 14 = .ok (.iconst 1, 1) := by decide +kernel
theorem dX4_setPriority_15 : decode cX4_setPriority 15 = .ok (.invokevirtual 90, 3) := by decide +kernel
theorem dX4_setPriority_18 : decode cX4_setPriority 18 = .ok (.ireturn, 1) := by decide +kernel
theorem dX4_setPriority_19 : decode cX4_setPriority 19 = .ok (.iload_n 2, 1) := by decide +kernel
theorem dX4_setPriority_20 : decode cX4_setPriority 20 = .ok (.iconst 0, 1) := by decide +kernel
theorem dX4_setPriority_21 : decode cX4_setPriority 21 = .ok (.iconst 3, 1) := by decide +kernel
theorem dX4_setPriority_22 : decode cX4_setPriority 22 = .ok (.invokestatic 83, 3) := by decide +kernel
theorem dX4_setPriority_25 : decode cX4_setPriority 25 = .ok (.ifCond .ne 9, 3) := by decide +kernel
theorem dX4_setPriority_28 : decode cX4_setPriority 28 = .ok (.aload_n 0, 1) := by decide +kernel
theorem dX4_setPriority_29 : decode cX4_setPriority 29 = .ok (.iconst 2, 1) := by decide +kernel
theorem dX4_setPriority_30 : decode cX4_setPriority 30 = .ok (.invokevirtual 90, 3) := by decide +kernel
theorem dX4_setPriority_33 : decode cX4_setPriority 33 = .ok (.ireturn, 1) := by decide +kernel
theorem dX4_setPriority_34 : decode cX4_setPriority 34 = .ok (.aload_n 0, 1) := by decide +kernel
theorem dX4_setPriority_35 : decode cX4_setPriority 35 = .ok (.getfield 56, 3) := by decide +kernel
theorem dX4_setPriority_38 : decode cX4_setPriority 38 = .ok (.iload_n 1, 1) := by decide +kernel
theorem dX4_setPriority_39 : decode cX4_setPriority 39 = .ok (.iaload, 1) := by decide +kernel
theorem dX4_setPriority_40 : decode cX4_setPriority 40 = .ok (.iconst 4, 1) := by decide +kernel
theorem dX4_setPriority_41 : decode cX4_setPriority 41 = .ok (.if_icmp .ne 9, 3) := by decide +kernel
theorem dX4_setPriority_44 : decode cX4_setPriority 44 = .ok (.aload_n 0, 1) := by decide +kernel
theorem dX4_setPriority_45 : decode cX4_setPriority 45 = .ok (.iconst 3, 1) := by decide +kernel
theorem dX4_setPriority_46 : decode cX4_setPriority 46 = .ok (.invokevirtual 90, 3) := by decide +kernel
theorem dX4_setPriority_49 : decode cX4_setPriority 49 = .ok (.ireturn, 1) := by decide +kernel
theorem dX4_setPriority_50 : decode cX4_setPriority 50 = .ok (.aload_n 0, 1) := by decide +kernel
theorem dX4_setPriority_51 : decode cX4_setPriority 51 = .ok (.getfield 47, 3) := by decide +kernel
theorem dX4_setPriority_54 : decode cX4_setPriority 54 = .ok (.iload_n 1, 1) := by decide +kernel
theorem dX4_setPriority_55 : decode cX4_setPriority 55 = .ok (.iaload, 1) := by decide +kernel
theorem dX4_setPriority_56 : decode cX4_setPriority 56 = .ok (.istore_n 3, 1) := by decide +kernel
theorem dX4_setPriority_57 : decode cX4_setPriority 57 = .ok (.aload_n 0, 1) := by decide +kernel
theorem dX4_setPriority_58 : decode cX4_setPriority 58 = .ok (.getfield 47, 3) := by decide +kernel
theorem dX4_setPriority_61 : decode cX4_setPriority 61 = .ok (.iload_n 1, 1) := by decide +kernel
theorem dX4_setPriority_62 : decode cX4_setPriority 62 = .ok (.iload_n 2, 1) := by decide +kernel
theorem dX4_setPriority_63 : decode cX4_setPriority 63 = .ok (.iastore, 1) := by decide +kernel
theorem dX4_setPriority_64 : decode cX4_setPriority 64 = .ok (.iload_n 3, 1) := by decide +kernel
theorem dX4_setPriority_65 : decode cX4_setPriority 65 = .ok (.ireturn, 1) := by decide +kernel
theorem dX4_pause_0 : decode cX4_pause 0 = .ok (.aload_n 0, 1) := by decide +kernel
theorem dX4_pause_1 : decode cX4_pause 1 = .ok (.iconst 0, 1) := by decide +kernel
theorem dX4_pause_2 : decode cX4_pause 2 = .ok (.putfield 77, 3) := by decide +kernel
theorem dX4_pause_5 : decode cX4_pause 5 = .ok (.aload_n 0, 1) := by decide +kernel
theorem dX4_pause_6 : decode cX4_pause 6 = .ok (.iload_n 1, 1) := by decide +kernel
theorem dX4_pause_7 : decode cX4_pause 7 = .ok (.invokevirtual 137, 3) := by decide +kernel
theorem dX4_pause_10 : decode cX4_pause 10 = .ok (.ifCond .ne 9, 3) := by decide +kernel
theorem dX4_pause_13 : decode cX4_pause 13 = .ok (.aload_n 0, 1) := by decide +kernel
theorem dX4_pause_14 : decode cX4_pause 14 = .ok (.iconst 1, 1) := by decide +kernel
theorem dX4_pause_15 : decode cX4_pause 15 = .ok (.invokevirtual 90, 3) := by decide +kernel
theorem dX4_pause_18 : decode cX4_pause 18 = .ok (.ireturn, 1) := by decide +kernel
theorem dX4_pause_19 : decode cX4_pause 19 = .ok (.aload_n 0, 1) := by decide +kernel
theorem dX4_pause_20 : decode cX4_pause 20 = .ok (.getfield 56, 3) := by decide +kernel
theorem dX4_pause_23 : decode cX4_pause 23 = .ok (.iload_n 1, 1) := by decide +kernel
theorem dX4_pause_24 : decode cX4_pause 24 = .ok (.iaload, 1) := by decide +kernel
theorem dX4_pause_25 : decode cX4_pause 25 = .ok (.iconst 1, 1) := by decide +kernel
theorem dX4_pause_26 : decode cX4_pause 26 = .ok (.if_icmp .le 9, 3) := by decide +kernel
theorem dX4_pause_29 : decode cX4_pause 29 = .ok (.aload_n 0, 1) := by decide +kernel
theorem dX4_pause_30 : decode cX4_pause 30 = .ok (.iconst 2, 1) := by decide +kernel
theorem dX4_pause_31 : decode cX4_pause 31 = .ok (.invokevirtual 90, 3) := by decide +kernel
theorem dX4_pause_34 : decode cX4_pause 34 = .ok (.ireturn, 1) := by decide +kernel
theorem dX4_pause_35 : decode cX4_pause 35 = .ok (.aload_n 0, 1) := by decide +kernel
theorem dX4_pause_36 : decode cX4_pause 36 = .ok (.iload_n 1, 1) := by decide +kernel
theorem dX4_pause_37 : decode cX4_pause 37 = .ok (.iconst 2, 1) := by decide +kernel
theorem dX4_pause_38 : decode cX4_pause 38 = .ok (.invokevirtual 118, 3) := by decide +kernel
theorem dX4_pause_41 : decode cX4_pause 41 = .ok (.aload_n 0, 1) := by decide +kernel
theorem dX4_pause_42 : decode cX4_pause 42 = .ok (.getfield 74, 3) := by decide +kernel
theorem dX4_pause_45 : decode cX4_pause 45 = .ok (.iload_n 1, 1) := by decide +kernel
theorem dX4_pause_46 : decode cX4_pause 46 = .ok (.aload_n 0, 1) := by decide +kernel
theorem dX4_pause_47 : decode cX4_pause 47 = .ok (.getfield 94, 3) := by decide +kernel
theorem dX4_pause_50 : decode cX4_pause 50 = .ok (.iastore, 1) := by decide +kernel
theorem dX4_pause_51 : decode cX4_pause 51 = .ok (.aload_n 0, 1) := by decide +kernel
theorem dX4_pause_52 : decode cX4_pause 52 = .ok (.getfield 50, 3) := by decide +kernel
theorem dX4_pause_55 : decode cX4_pause 55 = .ok (.iload_n 1, 1) := by decide +kernel
theorem dX4_pause_56 : decode cX4_pause 56 = .ok (.iaload, 1) := by decide +kernel
theorem dX4_pause_57 : decode cX4_pause 57 = .ok (.aload_n 0, 1) := by decide +kernel
theorem dX4_pause_58 : decode cX4_pause 58 = .ok (.getfield 62, 3) := by decide +kernel
theorem dX4_pause_61 : decode cX4_pause 61 = .ok (.iload_n 1, 1) := by decide +kernel
theorem dX4_pause_62 : decode cX4_pause 62 = .ok (.iaload, 1) := by decide +kernel
theorem dX4_pause_63 : decode cX4_pause 63 = .ok (.isub, 1) := by decide +kernel
theorem dX4_pause_64 : decode cX4_pause 64 = .ok (.ireturn, 1) := by decide +kernel
theorem dX4_resume_0 : decode cX4_resume 0 = .ok (.aload_n 0, 1) := by decide +kernel
theorem dX4_resume_1 : decode cX4_resume 1 = .ok (.iconst 0, 1) := by decide +kernel
theorem dX4_resume_2 : decode cX4_resume 2 = .ok (.putfield 77, 3) := by decide +kernel
theorem dX4_resume_5 : decode cX4_resume 5 = .ok (.aload_n 0, 1) := by decide +kernel
theorem dX4_resume_6 : decode cX4_resume 6 = .ok (.iload_n 1, 1) := by decide +kernel
theorem dX4_resume_7 : decode cX4_resume 7 = .ok (.invokevirtual 137, 3) := by decide +kernel
theorem dX4_resume_10 : decode cX4_resume 10 = .ok (.ifCond .ne 9, 3) := by decide +kernel
theorem dX4_resume_13 : decode cX4_resume 13 = .ok (.aload_n 0, 1) := by decide +kernel
theorem dX4_resume_14 : decode cX4_resume 14 = .ok (.iconst 1, 1) := by decide +kernel
theorem dX4_resume_15 : decode cX4_resume 15 = .ok (.invokevirtual 90, 3) := by decide +kernel
theorem dX4_resume_18 : decode cX4_resume 18 = .ok (.ireturn, 1) := by decide +kernel
theorem dX4_resume_19 : decode cX4_resume 19 = .ok (.aload_n 0, 1) := by decide +kernel
theorem dX4_resume_20 : decode cX4_resume 20 = .ok (.getfield 56, 3) := by decide +kernel
theorem dX4_resume_23 : decode cX4_resume 23 = .ok (.iload_n 1, 1) := by decide +kernel
theorem dX4_resume_24 : decode cX4_resume 24 = .ok (.iaload, 1) := by decide +kernel
theorem dX4_resume_25 : decode cX4_resume 25 = .ok (.iconst 2, 1) := by decide +kernel
theorem dX4_resume_26 : decode cX4_resume 26 = .ok (.if_icmp .eq 9, 3) := by decide +kernel
theorem dX4_resume_29 : decode cX4_resume 29 = .ok (.aload_n 0, 1) := by decide +kernel
theorem dX4_resume_30 : decode cX4_resume 30 = .ok (.iconst 2, 1) := by decide +kernel
theorem dX4_resume_31 : decode cX4_resume 31 = .ok (.invokevirtual 90, 3) := by decide +kernel
theorem dX4_resume_34 : decode cX4_resume 34 = .ok (.ireturn, 1) := by decide +kernel
theorem dX4_resume_35 : decode cX4_resume 35 = .ok (.aload_n 0, 1) := by decide +kernel
theorem dX4_resume_36 : decode cX4_resume 36 = .ok (.getfield 56, 3) := by decide +kernel
theorem dX4_resume_39 : decode cX4_resume 39 = .ok (.iload_n 1, 1) := by decide +kernel
theorem dX4_resume_40 : decode cX4_resume 40 = .ok (.iconst 0, 1) := by decide +kernel
theorem dX4_resume_41 : decode cX4_resume 41 = .ok (.iastore, 1) := by decide +kernel
theorem dX4_resume_42 : decode cX4_resume 42 = .ok (.aload_n 0, 1) := by decide +kernel
theorem dX4_resume_43 : decode cX4_resume 43 = .ok (.getfield 94, 3) := by decide +kernel
theorem dX4_resume_46 : decode cX4_resume 46 = .ok (.aload_n 0, 1) := by decide +kernel
theorem dX4_resume_47 : decode cX4_resume 47 = .ok (.getfield 74, 3) := by decide +kernel
theorem dX4_resume_50 : decode cX4_resume 50 = .ok (.iload_n 1, 1) := by decide +kernel
theorem dX4_resume_51 : decode cX4_resume 51 = .ok (.iaload, 1) := by decide +kernel
theorem dX4_resume_52 : decode cX4_resume 52 = .ok (.isub, 1) := by decide +kernel
theorem dX4_resume_53 : decode cX4_resume 53 = .ok (.ireturn, 1) := by decide +kernel
theorem dX4_merge_0 : decode cX4_merge 0 = .ok (.aload_n 0, 1) := by decide +kernel
theorem dX4_merge_1 : decode cX4_merge 1 = .ok (.iconst 0, 1) := by decide +kernel
theorem dX4_merge_2 : decode cX4_merge 2 = .ok (.putfield 77, 3) := by decide +kernel
theorem dX4_merge_5 : decode cX4_merge 5 = .ok (.aload_n 0, 1) := by decide +kernel
theorem dX4_merge_6 : decode cX4_merge 6 = .ok (.iload_n 1, 1) := by decide +kernel
theorem dX4_merge_7 : decode cX4_merge 7 = .ok (.invokevirtual 137, 3) := by decide +kernel
theorem dX4_merge_10 : decode cX4_merge 10 = .ok (.ifCond .eq 11, 3) := by decide +kernel
theorem dX4_merge_13 : decode cX4_merge 13 = .ok (.aload_n 0, 1) := by decide +kernel
theorem dX4_merge_14 : decode cX4_merge 14 = .ok (.iload_n 2, 1) := by decide +kernel
theorem dX4_merge_15 : decode cX4_merge 15 = .ok (.invokevirtual 137, 3) := by decide +kernel
theorem dX4_merge_18 : decode cX4_merge 18 = .ok (.ifCond .ne 9, 3) := by decide +kernel
theorem dX4_merge_21 : decode cX4_merge 21 = .ok (.aload_n 0, 1) := by decide +kernel
theorem dX4_merge_22 : decode cX4_merge 22 = .ok (.iconst 1, 1) := by decide +kernel
theorem dX4_merge_23 : decode cX4_merge 23 = .ok (.invokevirtual 90, 3) := by decide +kernel
theorem dX4_merge_26 : decode cX4_merge 26 = .ok (.ireturn, 1) := by decide +kernel
theorem dX4_merge_27 : decode cX4_merge 27 = .ok (.iload_n 1, 1) := by decide +kernel
theorem dX4_merge_28 : decode cX4_merge 28 = .ok (.iload_n 2, 1) := by decide +kernel
theorem dX4_merge_29 : decode cX4_merge 29 = .ok (.if_icmp .ne 9, 3) := by decide +kernel
theorem dX4_merge_32 : decode cX4_merge 32 = .ok (.aload_n 0, 1) := by decide +kernel
theorem dX4_merge_33 : decode cX4_merge 33 = .ok (.iconst 2, 1) := by decide +kernel
theorem dX4_merge_34 : decode cX4_merge 34 = .ok (.invokevirtual 90, 3) := by decide +kernel
theorem dX4_merge_37 : decode cX4_merge 37 = .ok (.ireturn, 1) := by decide +kernel
theorem dX4_merge_38 : decode cX4_merge 38 = .ok (.aload_n 0, 1) := by decide +kernel
theorem dX4_merge_39 : decode cX4_merge 39 = .ok (.iload_n 1, 1) := by decide +kernel
theorem dX4_merge_40 : decode cX4_merge 40 = .ok (.invokevirtual 140, 3) := by decide +kernel
theorem dX4_merge_43 : decode cX4_merge 43 = .ok (.ifCond .eq 11, 3) := by decide +kernel
theorem dX4_merge_46 : decode cX4_merge 46 = .ok (.aload_n 0, 1) := by decide +kernel
theorem dX4_merge_47 : decode cX4_merge 47 = .ok (.iload_n 2, 1) := by decide +kernel
theorem dX4_merge_48 : decode cX4_merge 48 = .ok (.invokevirtual 140, 3) := by decide +kernel
theorem dX4_merge_51 : decode cX4_merge 51 = .ok (.ifCond .ne 9, 3) := by decide +kernel
theorem dX4_merge_54 : decode cX4_merge 54 = .ok (.aload_n 0, 1) := by decide +kernel
theorem dX4_merge_55 : decode cX4_merge 55 = .ok (.iconst 3, 1) := by decide +kernel
theorem dX4_merge_56 : decode cX4_merge 56 = .ok (.invokevirtual 90, 3) := by decide +kernel
theorem dX4_merge_59 : decode cX4_merge 59 = .ok (.ireturn, 1) := by decide +kernel
theorem dX4_merge_60 : decode cX4_merge 60 = .ok (.aload_n 0, 1) := by decide +kernel
theorem dX4_merge_61 : decode cX4_merge 61 = .ok (.iload_n 1, 1) := by decide +kernel
theorem dX4_merge_62 : decode cX4_merge 62 = .ok (.iconst 4, 1) := by decide +kernel
theorem dX4_merge_63 : decode cX4_merge 63 = .ok (.invokevirtual 118, 3) := by decide +kernel
theorem dX4_merge_66 : decode cX4_merge 66 = .ok (.aload_n 0, 1) := by decide +kernel
theorem dX4_merge_67 : decode cX4_merge 67 = .ok (.getfield 74, 3) := by decide +kernel
theorem dX4_merge_70 : decode cX4_merge 70 = .ok (.iload_n 1, 1) := by decide +kernel
theorem dX4_merge_71 : decode cX4_merge 71 = .ok (.iload_n 2, 1) := by decide +kernel
theorem dX4_merge_72 : decode cX4_merge 72 = .ok (.iastore, 1) := by decide +kernel
theorem dX4_merge_73 : decode cX4_merge 73 = .ok (.aload_n 0, 1) := by decide +kernel
theorem dX4_merge_74 : decode cX4_merge 74 = .ok (.getfield 47, 3) := by decide +kernel
theorem dX4_merge_77 : decode cX4_merge 77 = .ok (.iload_n 2, 1) := by decide +kernel
theorem dX4_merge_78 : decode cX4_merge 78 = .ok (.aload_n 0, 1) := by decide +kernel
theorem dX4_merge_79 : decode cX4_merge 79 = .ok (.getfield 47, 3) := by decide +kernel
theorem dX4_merge_82 : decode cX4_merge 82 = .ok (.iload_n 2, 1) := by decide +kernel
theorem dX4_merge_83 : decode cX4_merge 83 = .ok (.iaload, 1) := by decide +kernel
theorem dX4_merge_84 : decode cX4_merge 84 = .ok (.aload_n 0, 1) := by decide +kernel
theorem dX4_merge_85 : decode cX4_merge 85 = .ok (.getfield 47, 3) := by decide +kernel
theorem dX4_merge_88 : decode cX4_merge 88 = .ok (.iload_n 1, 1) := by decide +kernel
theorem dX4_merge_89 : decode cX4_merge 89 = .ok (.iaload, 1) := by decide +kernel
theorem dX4_merge_90 : decode cX4_merge 90 = .ok (.invokestatic 97, 3) := by decide +kernel
theorem dX4_merge_93 : decode cX4_merge 93 = .ok (.iastore, 1) := by decide +kernel
theorem dX4_merge_94 : decode cX4_merge 94 = .ok (.aload_n 0, 1) := by decide +kernel
theorem dX4_merge_95 : decode cX4_merge 95 = .ok (.getfield 59, 3) := by decide +kernel
theorem dX4_merge_98 : decode cX4_merge 98 = .ok (.iload_n 2, 1) := by decide +kernel
theorem dX4_merge_99 : decode cX4_merge 99 = .ok (.aload_n 0, 1) := by decide +kernel
theorem dX4_merge_100 : decode cX4_merge 100 = .ok (.getfield 59, 3) := by decide +kernel
theorem dX4_merge_103 : decode cX4_merge 103 = .ok (.iload_n 2, 1) := by decide +kernel
theorem dX4_merge_104 : decode cX4_merge 104 = .ok (.iaload, 1) := by decide +kernel
theorem dX4_merge_105 : decode cX4_merge 105 = .ok (.aload_n 0, 1) := by decide +kernel
theorem dX4_merge_106 : decode cX4_merge 106 = .ok (.getfield 59, 3) := by decide +kernel
theorem dX4_merge_109 : decode cX4_merge 109 = .ok (.iload_n 1, 1) := by decide +kernel
theorem dX4_merge_110 : decode cX4_merge 110 = .ok (.iaload, 1) := by decide +kernel
theorem dX4_merge_111 : decode cX4_merge 111 = .ok (.invokestatic 103, 3) := by decide +kernel
theorem dX4_merge_114 : decode cX4_merge 114 = .ok (.iastore, 1) := by decide +kernel
theorem dX4_merge_115 : decode cX4_merge 115 = .ok (.aload_n 0, 1) := by decide +kernel
theorem dX4_merge_116 : decode cX4_merge 116 = .ok (.iload_n 2, 1) := by decide +kernel
theorem dX4_merge_117 : decode cX4_merge 117 = .ok (.invokevirtual 143, 3) := by decide +kernel
theorem dX4_merge_120 : decode cX4_merge 120 = .ok (.ireturn, 1) := by decide +kernel
theorem dX4_reopen_0 : decode cX4_reopen 0 = .ok (.aload_n 0, 1) := by decide +kernel
theorem dX4_reopen_1 : decode cX4_reopen 1 = .ok (.iconst 0, 1) := by decide +kernel
theorem dX4_reopen_2 : decode cX4_reopen 2 = .ok (.putfield 77, 3) := by decide +kernel
theorem dX4_reopen_5 : decode cX4_reopen 5 = .ok (.aload_n 0, 1) := by decide +kernel
theorem dX4_reopen_6 : decode cX4_reopen 6 = .ok (.iload_n 1, 1) := by decide +kernel
theorem dX4_reopen_7 : decode cX4_reopen 7 = .ok (.invokevirtual 137, 3) := by decide +kernel
theorem dX4_reopen_10 : decode cX4_reopen 10 = .ok (.ifCond .ne 9, 3) := by decide +kernel
theorem dX4_reopen_13 : decode cX4_reopen 13 = .ok (.aload_n 0, 1) := by decide +kernel
theorem dX4_reopen_14 : decode cX4_reopen 14 = .ok (.iconst 1, 1) := by decide +kernel
theorem dX4_reopen_15 : decode cX4_reopen 15 = .ok (.invokevirtual 90, 3) := by decide +kernel
theorem dX4_reopen_18 : decode cX4_reopen 18 = .ok (.ireturn, 1) := by decide +kernel
theorem dX4_reopen_19 : decode cX4_reopen 19 = .ok (.iload_n 2, 1) := by decide +kernel
theorem dX4_reopen_20 : decode cX4_reopen 20 = .ok (.iconst 1, 1) := by decide +kernel
theorem dX4_reopen_21 : decode cX4_reopen 21 = .ok (.sipush 300, 3) := by decide +kernel
theorem dX4_reopen_24 : decode cX4_reopen 24 = .ok (.invokestatic 83, 3) := by decide +kernel
theorem dX4_reopen_27 : decode cX4_reopen 27 = .ok (.ifCond .ne 9, 3) := by decide +kernel
theorem dX4_reopen_30 : decode cX4_reopen 30 = .ok (.aload_n 0, 1) := by decide +kernel
theorem dX4_reopen_31 : decode cX4_reopen 31 = .ok (.iconst 2, 1) := by decide +kernel
theorem dX4_reopen_32 : decode cX4_reopen 32 = .ok (.invokevirtual 90, 3) := by decide +kernel
theorem dX4_reopen_35 : decode cX4_reopen 35 = .ok (.ireturn, 1) := by decide +kernel
theorem dX4_reopen_36 : decode cX4_reopen 36 = .ok (.aload_n 0, 1) := by decide +kernel
theorem dX4_reopen_37 : decode cX4_reopen 37 = .ok (.getfield 56, 3) := by decide +kernel
theorem dX4_reopen_40 : decode cX4_reopen 40 = .ok (.iload_n 1, 1) := by decide +kernel
theorem dX4_reopen_41 : decode cX4_reopen 41 = .ok (.iaload, 1) := by decide +kernel
theorem dX4_reopen_42 : decode cX4_reopen 42 = .ok (.iconst 3, 1) := by decide +kernel
theorem dX4_reopen_43 : decode cX4_reopen 43 = .ok (.if_icmp .ne 20, 3) := by decide +kernel
theorem dX4_reopen_46 : decode cX4_reopen 46 = .ok (.aload_n 0, 1) := by decide +kernel
theorem dX4_reopen_47 : decode cX4_reopen 47 = .ok (.getfield 94, 3) := by decide +kernel
theorem dX4_reopen_50 : decode cX4_reopen 50 = .ok (.aload_n 0, 1) := by decide +kernel
theorem dX4_reopen_51 : decode cX4_reopen 51 = .ok (.getfield 74, 3) := by decide +kernel
theorem dX4_reopen_54 : decode cX4_reopen 54 = .ok (.iload_n 1, 1) := by decide +kernel
theorem dX4_reopen_55 : decode cX4_reopen 55 = .ok (.iaload, 1) := by decide +kernel
theorem dX4_reopen_56 : decode cX4_reopen 56 = .ok (.isub, 1) := by decide +kernel
theorem dX4_reopen_57 : decode cX4_reopen 57 = .ok (.sipush 7200, 3) := by decide +kernel
theorem dX4_reopen_60 : decode cX4_reopen 60 = .ok (.if_icmp .lt 9, 3) := by decide +kernel
theorem dX4_reopen_63 : decode cX4_reopen 63 = .ok (.aload_n 0, 1) := by decide +kernel
theorem dX4_reopen_64 : decode cX4_reopen 64 = .ok (.iconst 3, 1) := by decide +kernel
theorem dX4_reopen_65 : decode cX4_reopen 65 = .ok (.invokevirtual 90, 3) := by decide +kernel
theorem dX4_reopen_68 : decode cX4_reopen 68 = .ok (.ireturn, 1) := by decide +kernel
theorem dX4_reopen_69 : decode cX4_reopen 69 = .ok (.aload_n 0, 1) := by decide +kernel
theorem dX4_reopen_70 : decode cX4_reopen 70 = .ok (.getfield 56, 3) := by decide +kernel
theorem dX4_reopen_73 : decode cX4_reopen 73 = .ok (.iload_n 1, 1) := by decide +kernel
theorem dX4_reopen_74 : decode cX4_reopen 74 = .ok (.iconst 0, 1) := by decide +kernel
theorem dX4_reopen_75 : decode cX4_reopen 75 = .ok (.iastore, 1) := by decide +kernel
theorem dX4_reopen_76 : decode cX4_reopen 76 = .ok (.aload_n 0, 1) := by decide +kernel
theorem dX4_reopen_77 : decode cX4_reopen 77 = .ok (.getfield 50, 3) := by decide +kernel
theorem dX4_reopen_80 : decode cX4_reopen 80 = .ok (.iload_n 1, 1) := by decide +kernel
theorem dX4_reopen_81 : decode cX4_reopen 81 = .ok (.dup2, 1) := by decide +kernel
theorem dX4_reopen_82 : decode cX4_reopen 82 = .ok (.iaload, 1) := by decide +kernel
theorem dX4_reopen_83 : decode cX4_reopen 83 = .ok (.iload_n 2, 1) := by decide +kernel
theorem dX4_reopen_84 : decode cX4_reopen 84 = .ok (.iadd, 1) := by decide +kernel
theorem dX4_reopen_85 : decode cX4_reopen 85 = .ok (.iastore, 1) := by decide +kernel
theorem dX4_reopen_86 : decode cX4_reopen 86 = .ok (.aload_n 0, 1) := by decide +kernel
theorem dX4_reopen_87 : decode cX4_reopen 87 = .ok (.getfield 71, 3) := by decide +kernel
theorem dX4_reopen_90 : decode cX4_reopen 90 = .ok (.iload_n 1, 1) := by decide +kernel
theorem dX4_reopen_91 : decode cX4_reopen 91 = .ok (.dup2, 1) := by decide +kernel
theorem dX4_reopen_92 : decode cX4_reopen 92 = .ok (.iaload, 1) := by decide +kernel
theorem dX4_reopen_93 : decode cX4_reopen 93 = .ok (.iconst 1, 1) := by decide +kernel
theorem dX4_reopen_94 : decode cX4_reopen 94 = .ok (.iadd, 1) := by decide +kernel
theorem dX4_reopen_95 : decode cX4_reopen 95 = .ok (.iastore, 1) := by decide +kernel
theorem dX4_reopen_96 : decode cX4_reopen 96 = .ok (.aload_n 0, 1) := by decide +kernel
theorem dX4_reopen_97 : decode cX4_reopen 97 = .ok (.getfield 50, 3) := by decide +kernel
theorem dX4_reopen_100 : decode cX4_reopen 100 = .ok (.iload_n 1, 1) := by decide +kernel
theorem dX4_reopen_101 : decode cX4_reopen 101 = .ok (.iaload, 1) := by decide +kernel
theorem dX4_reopen_102 : decode cX4_reopen 102 = .ok (.ireturn, 1) := by decide +kernel
theorem dX4_ticketCount_0 : decode cX4_ticketCount 0 = .ok (.aload_n 0, 1) := by decide +kernel
theorem dX4_ticketCount_1 : decode cX4_ticketCount 1 = .ok (.iconst 0, 1) := by decide +kernel
theorem dX4_ticketCount_2 : decode cX4_ticketCount 2 = .ok (.putfield 77, 3) := by decide +kernel
theorem dX4_ticketCount_5 : decode cX4_ticketCount 5 = .ok (.aload_n 0, 1) := by decide +kernel
theorem dX4_ticketCount_6 : decode cX4_ticketCount 6 = .ok (.getfield 87, 3) := by decide +kernel
theorem dX4_ticketCount_9 : decode cX4_ticketCount 9 = .ok (.ireturn, 1) := by decide +kernel
theorem dX4_agentOf_0 : decode cX4_agentOf 0 = .ok (.iconst 0, 1) := by decide +kernel
theorem dX4_agentOf_1 : decode cX4_agentOf 1 = .ok (.istore_n 2, 1) := by decide +kernel
theorem dX4_agentOf_2 : decode cX4_agentOf 2 = .ok (.iload_n 2, 1) := by decide +kernel
theorem dX4_agentOf_3 : decode cX4_agentOf 3 = .ok (.aload_n 0, 1) := by decide +kernel
theorem dX4_agentOf_4 : decode cX4_agentOf 4 = .ok (.getfield 80, 3) := by decide +kernel
theorem dX4_agentOf_7 : decode cX4_agentOf 7 = .ok (.if_icmp .ge 21, 3) := by decide +kernel
theorem dX4_agentOf_10 : decode cX4_agentOf 10 = .ok (.aload_n 0, 1) := by decide +kernel
theorem dX4_agentOf_11 : decode cX4_agentOf 11 = .ok (.getfield 35, 3) := by decide +kernel
theorem dX4_agentOf_14 : decode cX4_agentOf 14 = .ok (.iload_n 2, 1) := by decide +kernel
theorem dX4_agentOf_15 : decode cX4_agentOf 15 = .ok (.iaload, 1) := by decide +kernel
theorem dX4_agentOf_16 : decode cX4_agentOf 16 = .ok (.iload_n 1, 1) := by decide +kernel
theorem dX4_agentOf_17 : decode cX4_agentOf 17 = .ok (.if_icmp .ne 5, 3) := by decide +kernel
theorem dX4_agentOf_20 : decode cX4_agentOf 20 = .ok (.iload_n 2, 1) := by decide +kernel
theorem dX4_agentOf_21 : decode cX4_agentOf 21 = .ok (.ireturn, 1) := by decide +kernel
theorem dX4_agentOf_22 : decode cX4_agentOf 22 = .ok (.iinc 2 1, 3) := by decide +kernel
theorem dX4_agentOf_25 : decode cX4_agentOf 25 = .ok (.goto (-23), 3) := by decide +kernel
theorem dX4_agentOf_28 : decode cX4_agentOf 28 = .ok (.iconst (-1), 1) := by decide +kernel
theorem dX4_agentOf_29 : decode cX4_agentOf 29 = .ok (.ireturn, 1) := by decide +kernel
theorem dX4_toldTicket_0 : decode cX4_toldTicket 0 = .ok (.iload_n 2, 1) := by decide +kernel
theorem dX4_toldTicket_1 : decode cX4_toldTicket 1 = .ok (.tableswitch 91 0 6 #[43, 50, 56, 63, 70, 77, 84], 43) := by decide +kernel
theorem dX4_toldTicket_44 : decode cX4_toldTicket 44 = .ok (.aload_n 0, 1) := by decide +kernel
theorem dX4_toldTicket_45 : decode cX4_toldTicket 45 = .ok (.getfield 56, 3) := by decide +kernel
theorem dX4_toldTicket_48 : decode cX4_toldTicket 48 = .ok (.iload_n 1, 1) := by decide +kernel
theorem dX4_toldTicket_49 : decode cX4_toldTicket 49 = .ok (.iaload, 1) := by decide +kernel
theorem dX4_toldTicket_50 : decode cX4_toldTicket 50 = .ok (.ireturn, 1) := by decide +kernel
theorem dX4_toldTicket_51 : decode cX4_toldTicket 51 = .ok (.aload_n 0, 1) := by decide +kernel
theorem dX4_toldTicket_52 : decode cX4_toldTicket 52 = .ok (.iload_n 1, 1) := by decide +kernel
theorem dX4_toldTicket_53 : decode cX4_toldTicket 53 = .ok (.invokevirtual 146, 3) := by decide +kernel
theorem dX4_toldTicket_56 : decode cX4_toldTicket 56 = .ok (.ireturn, 1) := by decide +kernel
theorem dX4_toldTicket_57 : decode cX4_toldTicket 57 = .ok (.aload_n 0, 1) := by decide +kernel
theorem dX4_toldTicket_58 : decode cX4_toldTicket 58 = .ok (.getfield 47, 3) := by decide +kernel
theorem dX4_toldTicket_61 : decode cX4_toldTicket 61 = .ok (.iload_n 1, 1) := by decide +kernel
theorem dX4_toldTicket_62 : decode cX4_toldTicket 62 = .ok (.iaload, 1) := by decide +kernel
theorem dX4_toldTicket_63 : decode cX4_toldTicket 63 = .ok (.ireturn, 1) := by decide +kernel
theorem dX4_toldTicket_64 : decode cX4_toldTicket 64 = .ok (.aload_n 0, 1) := by decide +kernel
theorem dX4_toldTicket_65 : decode cX4_toldTicket 65 = .ok (.getfield 59, 3) := by decide +kernel
theorem dX4_toldTicket_68 : decode cX4_toldTicket 68 = .ok (.iload_n 1, 1) := by decide +kernel
theorem dX4_toldTicket_69 : decode cX4_toldTicket 69 = .ok (.iaload, 1) := by decide +kernel
theorem dX4_toldTicket_70 : decode cX4_toldTicket 70 = .ok (.ireturn, 1) := by decide +kernel
theorem dX4_toldTicket_71 : decode cX4_toldTicket 71 = .ok (.aload_n 0, 1) := by decide +kernel
theorem dX4_toldTicket_72 : decode cX4_toldTicket 72 = .ok (.getfield 62, 3) := by decide +kernel
theorem dX4_toldTicket_75 : decode cX4_toldTicket 75 = .ok (.iload_n 1, 1) := by decide +kernel
theorem dX4_toldTicket_76 : decode cX4_toldTicket 76 = .ok (.iaload, 1) := by decide +kernel
theorem dX4_toldTicket_77 : decode cX4_toldTicket 77 = .ok (.ireturn, 1) := by decide +kernel
theorem dX4_toldTicket_78 : decode cX4_toldTicket 78 = .ok (.aload_n 0, 1) := by decide +kernel
theorem dX4_toldTicket_79 : decode cX4_toldTicket 79 = .ok (.getfield 50, 3) := by decide +kernel
theorem dX4_toldTicket_82 : decode cX4_toldTicket 82 = .ok (.iload_n 1, 1) := by decide +kernel
theorem dX4_toldTicket_83 : decode cX4_toldTicket 83 = .ok (.iaload, 1) := by decide +kernel
theorem dX4_toldTicket_84 : decode cX4_toldTicket 84 = .ok (.ireturn, 1) := by decide +kernel
theorem dX4_toldTicket_85 : decode cX4_toldTicket 85 = .ok (.aload_n 0, 1) := by decide +kernel
theorem dX4_toldTicket_86 : decode cX4_toldTicket 86 = .ok (.getfield 68, 3) := by decide +kernel
theorem dX4_toldTicket_89 : decode cX4_toldTicket 89 = .ok (.iload_n 1, 1) := by decide +kernel
theorem dX4_toldTicket_90 : decode cX4_toldTicket 90 = .ok (.iaload, 1) := by decide +kernel
theorem dX4_toldTicket_91 : decode cX4_toldTicket 91 = .ok (.ireturn, 1) := by decide +kernel
theorem dX4_toldTicket_92 : decode cX4_toldTicket 92 = .ok (.aload_n 0, 1) := by decide +kernel
theorem dX4_toldTicket_93 : decode cX4_toldTicket 93 = .ok (.getfield 71, 3) := by decide +kernel
theorem dX4_toldTicket_96 : decode cX4_toldTicket 96 = .ok (.iload_n 1, 1) := by decide +kernel
theorem dX4_toldTicket_97 : decode cX4_toldTicket 97 = .ok (.iaload, 1) := by decide +kernel
theorem dX4_toldTicket_98 : decode cX4_toldTicket 98 = .ok (.ireturn, 1) := by decide +kernel
theorem dX4_ticket_0 : decode cX4_ticket 0 = .ok (.aload_n 0, 1) := by decide +kernel
theorem dX4_ticket_1 : decode cX4_ticket 1 = .ok (.iconst 0, 1) := by decide +kernel
theorem dX4_ticket_2 : decode cX4_ticket 2 = .ok (.putfield 77, 3) := by decide +kernel
theorem dX4_ticket_5 : decode cX4_ticket 5 = .ok (.aload_n 0, 1) := by decide +kernel
theorem dX4_ticket_6 : decode cX4_ticket 6 = .ok (.iload_n 1, 1) := by decide +kernel
theorem dX4_ticket_7 : decode cX4_ticket 7 = .ok (.invokevirtual 137, 3) := by decide +kernel
theorem dX4_ticket_10 : decode cX4_ticket 10 = .ok (.ifCond .eq 22, 3) := by decide +kernel
theorem dX4_ticket_13 : decode cX4_ticket 13 = .ok (.iload_n 2, 1) := by decide +kernel
theorem dX4_ticket_14 : decode cX4_ticket 14 = .ok (.iconst 0, 1) := by decide +kernel
theorem dX4_ticket_15 : decode cX4_ticket 15 = .ok (.bipush 7, 2) := by decide +kernel
theorem dX4_ticket_17 : decode cX4_ticket 17 = .ok (.invokestatic 83, 3) := by decide +kernel
theorem dX4_ticket_20 : decode cX4_ticket 20 = .ok (.ifCond .eq 12, 3) := by decide +kernel
theorem dX4_ticket_23 : decode cX4_ticket 23 = .ok (.aload_n 0, 1) := by decide +kernel
theorem dX4_ticket_24 : decode cX4_ticket 24 = .ok (.iload_n 1, 1) := by decide +kernel
theorem dX4_ticket_25 : decode cX4_ticket 25 = .ok (.iload_n 2, 1) := by decide +kernel
theorem dX4_ticket_26 : decode cX4_ticket 26 = .ok (.invokevirtual 149, 3) := by decide +kernel
theorem dX4_ticket_29 : decode cX4_ticket 29 = .ok (.goto 8, 3) := by decide +kernel
theorem dX4_ticket_32 : decode cX4_ticket 32 = .ok (.aload_n 0, 1) := by decide +kernel
theorem dX4_ticket_33 : decode cX4_ticket 33 = .ok (.iconst 1, 1) := by decide +kernel
theorem dX4_ticket_34 : decode cX4_ticket 34 = .ok (.invokevirtual 90, 3) := by decide +kernel
theorem dX4_ticket_37 : decode cX4_ticket 37 = .ok (.ireturn, 1) := by decide +kernel
theorem dX4_mainOf_0 : decode cX4_mainOf 0 = .ok (.iload_n 1, 1) := by decide +kernel
theorem dX4_mainOf_1 : decode cX4_mainOf 1 = .ok (.istore_n 2, 1) := by decide +kernel
theorem dX4_mainOf_2 : decode cX4_mainOf 2 = .ok (.aload_n 0, 1) := by decide +kernel
theorem dX4_mainOf_3 : decode cX4_mainOf 3 = .ok (.getfield 56, 3) := by decide +kernel
theorem dX4_mainOf_6 : decode cX4_mainOf 6 = .ok (.iload_n 2, 1) := by decide +kernel
theorem dX4_mainOf_7 : decode cX4_mainOf 7 = .ok (.iaload, 1) := by decide +kernel
theorem dX4_mainOf_8 : decode cX4_mainOf 8 = .ok (.iconst 4, 1) := by decide +kernel
theorem dX4_mainOf_9 : decode cX4_mainOf 9 = .ok (.if_icmp .ne 13, 3) := by decide +kernel
theorem dX4_mainOf_12 : decode cX4_mainOf 12 = .ok (.aload_n 0, 1) := by decide +kernel
theorem dX4_mainOf_13 : decode cX4_mainOf 13 = .ok (.getfield 74, 3) := by decide +kernel
theorem dX4_mainOf_16 : decode cX4_mainOf 16 = .ok (.iload_n 2, 1) := by decide +kernel
theorem dX4_mainOf_17 : decode cX4_mainOf 17 = .ok (.iaload, 1) := by decide +kernel
theorem dX4_mainOf_18 : decode cX4_mainOf 18 = .ok (.istore_n 2, 1) := by decide +kernel
theorem dX4_mainOf_19 : decode cX4_mainOf 19 = .ok (.goto (-17), 3) := by decide +kernel
theorem dX4_mainOf_22 : decode cX4_mainOf 22 = .ok (.iload_n 2, 1) := by decide +kernel
theorem dX4_mainOf_23 : decode cX4_mainOf 23 = .ok (.ireturn, 1) := by decide +kernel
theorem dX4_isWithin_0 : decode cX4_isWithin 0 = .ok (.iload_n 1, 1) := by decide +kernel
theorem dX4_isWithin_1 : decode cX4_isWithin 1 = .ok (.istore_n 3, 1) := by decide +kernel
theorem dX4_isWithin_2 : decode cX4_isWithin 2 = .ok (.iload_n 3, 1) := by decide +kernel
theorem dX4_isWithin_3 : decode cX4_isWithin 3 = .ok (.iload_n 2, 1) := by decide +kernel
theorem dX4_isWithin_4 : decode cX4_isWithin 4 = .ok (.if_icmp .eq 23, 3) := by decide +kernel
theorem dX4_isWithin_7 : decode cX4_isWithin 7 = .ok (.aload_n 0, 1) := by decide +kernel
theorem dX4_isWithin_8 : decode cX4_isWithin 8 = .ok (.getfield 56, 3) := by decide +kernel
theorem dX4_isWithin_11 : decode cX4_isWithin 11 = .ok (.iload_n 3, 1) := by decide +kernel
theorem dX4_isWithin_12 : decode cX4_isWithin 12 = .ok (.iaload, 1) := by decide +kernel
theorem dX4_isWithin_13 : decode cX4_isWithin 13 = .ok (.iconst 4, 1) := by decide +kernel
theorem dX4_isWithin_14 : decode cX4_isWithin 14 = .ok (.if_icmp .ne 13, 3) := by decide +kernel
theorem dX4_isWithin_17 : decode cX4_isWithin 17 = .ok (.aload_n 0, 1) := by decide +kernel
theorem dX4_isWithin_18 : decode cX4_isWithin 18 = .ok (.getfield 74, 3) := by decide +kernel
theorem dX4_isWithin_21 : decode cX4_isWithin 21 = .ok (.iload_n 3, 1) := by decide +kernel
theorem dX4_isWithin_22 : decode cX4_isWithin 22 = .ok (.iaload, 1) := by decide +kernel
theorem dX4_isWithin_23 : decode cX4_isWithin 23 = .ok (.istore_n 3, 1) := by decide +kernel
theorem dX4_isWithin_24 : decode cX4_isWithin 24 = .ok (.goto (-22), 3) := by decide +kernel
theorem dX4_isWithin_27 : decode cX4_isWithin 27 = .ok (.iload_n 3, 1) := by decide +kernel
theorem dX4_isWithin_28 : decode cX4_isWithin 28 = .ok (.iload_n 2, 1) := by decide +kernel
theorem dX4_isWithin_29 : decode cX4_isWithin 29 = .ok (.if_icmp .ne 7, 3) := by decide +kernel
theorem dX4_isWithin_32 : decode cX4_isWithin 32 = .ok (.iconst 1, 1) := by decide +kernel
theorem dX4_isWithin_33 : decode cX4_isWithin 33 = .ok (.goto 4, 3) := by decide +kernel
theorem dX4_isWithin_36 : decode cX4_isWithin 36 = .ok (.iconst 0, 1) := by decide +kernel
theorem dX4_isWithin_37 : decode cX4_isWithin 37 = .ok (.ireturn, 1) := by decide +kernel
theorem dX4_customersOf_0 : decode cX4_customersOf 0 = .ok (.iconst 0, 1) := by decide +kernel
theorem dX4_customersOf_1 : decode cX4_customersOf 1 = .ok (.istore_n 2, 1) := by decide +kernel
theorem dX4_customersOf_2 : decode cX4_customersOf 2 = .ok (.iconst 0, 1) := by decide +kernel
theorem dX4_customersOf_3 : decode cX4_customersOf 3 = .ok (.istore_n 3, 1) := by decide +kernel
theorem dX4_customersOf_4 : decode cX4_customersOf 4 = .ok (.iload_n 3, 1) := by decide +kernel
theorem dX4_customersOf_5 : decode cX4_customersOf 5 = .ok (.aload_n 0, 1) := by decide +kernel
theorem dX4_customersOf_6 : decode cX4_customersOf 6 = .ok (.getfield 87, 3) := by decide +kernel
theorem dX4_customersOf_9 : decode cX4_customersOf 9 = .ok (.if_icmp .ge 29, 3) := by decide +kernel
theorem dX4_customersOf_12 : decode cX4_customersOf 12 = .ok (.aload_n 0, 1) := by decide +kernel
theorem dX4_customersOf_13 : decode cX4_customersOf 13 = .ok (.iload_n 3, 1) := by decide +kernel
theorem dX4_customersOf_14 : decode cX4_customersOf 14 = .ok (.iload_n 1, 1) := by decide +kernel
theorem dX4_customersOf_15 : decode cX4_customersOf 15 = .ok (.invokevirtual 152, 3) := by decide +kernel
theorem dX4_customersOf_18 : decode cX4_customersOf 18 = .ok (.ifCond .eq 14, 3) := by decide +kernel
theorem dX4_customersOf_21 : decode cX4_customersOf 21 = .ok (.iload_n 2, 1) := by decide +kernel
theorem dX4_customersOf_22 : decode cX4_customersOf 22 = .ok (.iconst 1, 1) := by decide +kernel
theorem dX4_customersOf_23 : decode cX4_customersOf 23 = .ok (.aload_n 0, 1) := by decide +kernel
theorem dX4_customersOf_24 : decode cX4_customersOf 24 = .ok (.getfield 53, 3) := by decide +kernel
theorem dX4_customersOf_27 : decode cX4_customersOf 27 = .ok (.iload_n 3, 1) := by decide +kernel
theorem dX4_customersOf_28 : decode cX4_customersOf 28 = .ok (.iaload, 1) := by decide +kernel
theorem dX4_customersOf_29 : decode cX4_customersOf 29 = .ok (.ishl, 1) := by decide +kernel
theorem dX4_customersOf_30 : decode cX4_customersOf 30 = .ok (.ior, 1) := by decide +kernel
theorem dX4_customersOf_31 : decode cX4_customersOf 31 = .ok (.istore_n 2, 1) := by decide +kernel
theorem dX4_customersOf_32 : decode cX4_customersOf 32 = .ok (.iinc 3 1, 3) := by decide +kernel
theorem dX4_customersOf_35 : decode cX4_customersOf 35 = .ok (.goto (-31), 3) := by decide +kernel
theorem dX4_customersOf_38 : decode cX4_customersOf 38 = .ok (.iload_n 2, 1) := by decide +kernel
theorem dX4_customersOf_39 : decode cX4_customersOf 39 = .ok (.ireturn, 1) := by decide +kernel
theorem dX4_main_0 : decode cX4_main 0 = .ok (.aload_n 0, 1) := by decide +kernel
theorem dX4_main_1 : decode cX4_main 1 = .ok (.iconst 0, 1) := by decide +kernel
theorem dX4_main_2 : decode cX4_main 2 = .ok (.putfield 77, 3) := by decide +kernel
theorem dX4_main_5 : decode cX4_main 5 = .ok (.aload_n 0, 1) := by decide +kernel
theorem dX4_main_6 : decode cX4_main 6 = .ok (.iload_n 1, 1) := by decide +kernel
theorem dX4_main_7 : decode cX4_main 7 = .ok (.invokevirtual 137, 3) := by decide +kernel
theorem dX4_main_10 : decode cX4_main 10 = .ok (.ifCond .eq 11, 3) := by decide +kernel
theorem dX4_main_13 : decode cX4_main 13 = .ok (.aload_n 0, 1) := by decide +kernel
theorem dX4_main_14 : decode cX4_main 14 = .ok (.iload_n 1, 1) := by decide +kernel
theorem dX4_main_15 : decode cX4_main 15 = .ok (.invokevirtual 155, 3) := by decide +kernel
theorem dX4_main_18 : decode cX4_main 18 = .ok (.goto 8, 3) := by decide +kernel
theorem dX4_main_21 : decode cX4_main 21 = .ok (.aload_n 0, 1) := by decide +kernel
theorem dX4_main_22 : decode cX4_main 22 = .ok (.iconst 1, 1) := by decide +kernel
theorem dX4_main_23 : decode cX4_main 23 = .ok (.invokevirtual 90, 3) := by decide +kernel
theorem dX4_main_26 : decode cX4_main 26 = .ok (.ireturn, 1) := by decide +kernel
theorem dX4_customers_0 : decode cX4_customers 0 = .ok (.aload_n 0, 1) := by decide +kernel
theorem dX4_customers_1 : decode cX4_customers 1 = .ok (.iconst 0, 1) := by decide +kernel
theorem dX4_customers_2 : decode cX4_customers 2 = .ok (.putfield 77, 3) := by decide +kernel
theorem dX4_customers_5 : decode cX4_customers 5 = .ok (.aload_n 0, 1) := by decide +kernel
theorem dX4_customers_6 : decode cX4_customers 6 = .ok (.iload_n 1, 1) := by decide +kernel
theorem dX4_customers_7 : decode cX4_customers 7 = .ok (.invokevirtual 137, 3) := by decide +kernel
theorem dX4_customers_10 : decode cX4_customers 10 = .ok (.ifCond .eq 11, 3) := by decide +kernel
theorem dX4_customers_13 : decode cX4_customers 13 = .ok (.aload_n 0, 1) := by decide +kernel
theorem dX4_customers_14 : decode cX4_customers 14 = .ok (.iload_n 1, 1) := by decide +kernel
theorem dX4_customers_15 : decode cX4_customers 15 = .ok (.invokevirtual 143, 3) := by decide +kernel
theorem dX4_customers_18 : decode cX4_customers 18 = .ok (.goto 8, 3) := by decide +kernel
theorem dX4_customers_21 : decode cX4_customers 21 = .ok (.aload_n 0, 1) := by decide +kernel
theorem dX4_customers_22 : decode cX4_customers 22 = .ok (.iconst 1, 1) := by decide +kernel
theorem dX4_customers_23 : decode cX4_customers 23 = .ok (.invokevirtual 90, 3) := by decide +kernel
theorem dX4_customers_26 : decode cX4_customers 26 = .ok (.ireturn, 1) := by decide +kernel
theorem dX4_due_0 : decode cX4_due 0 = .ok (.aload_n 0, 1) := by decide +kernel
theorem dX4_due_1 : decode cX4_due 1 = .ok (.iconst 0, 1) := by decide +kernel
theorem dX4_due_2 : decode cX4_due 2 = .ok (.putfield 77, 3) := by decide +kernel
theorem dX4_due_5 : decode cX4_due 5 = .ok (.aload_n 0, 1) := by decide +kernel
theorem dX4_due_6 : decode cX4_due 6 = .ok (.iload_n 1, 1) := by decide +kernel
theorem dX4_due_7 : decode cX4_due 7 = .ok (.invokevirtual 137, 3) := by decide +kernel
theorem dX4_due_10 : decode cX4_due 10 = .ok (.ifCond .ne 9, 3) := by decide +kernel
theorem dX4_due_13 : decode cX4_due 13 = .ok (.aload_n 0, 1) := by decide +kernel
theorem dX4_due_14 : decode cX4_due 14 = .ok (.iconst 1, 1) := by decide +kernel
theorem dX4_due_15 : decode cX4_due 15 = .ok (.invokevirtual 90, 3) := by decide +kernel
theorem dX4_due_18 : decode cX4_due 18 = .ok (.ireturn, 1) := by decide +kernel
theorem dX4_due_19 : decode cX4_due 19 = .ok (.aload_n 0, 1) := by decide +kernel
theorem dX4_due_20 : decode cX4_due 20 = .ok (.iload_n 1, 1) := by decide +kernel
theorem dX4_due_21 : decode cX4_due 21 = .ok (.invokevirtual 128, 3) := by decide +kernel
theorem dX4_due_24 : decode cX4_due 24 = .ok (.istore_n 2, 1) := by decide +kernel
theorem dX4_due_25 : decode cX4_due 25 = .ok (.iload_n 2, 1) := by decide +kernel
theorem dX4_due_26 : decode cX4_due 26 = .ok (.ifCond .lt 13, 3) := by decide +kernel
theorem dX4_due_29 : decode cX4_due 29 = .ok (.aload_n 0, 1) := by decide +kernel
theorem dX4_due_30 : decode cX4_due 30 = .ok (.getfield 56, 3) := by decide +kernel
theorem dX4_due_33 : decode cX4_due 33 = .ok (.iload_n 1, 1) := by decide +kernel
theorem dX4_due_34 : decode cX4_due 34 = .ok (.iaload, 1) := by decide +kernel
theorem dX4_due_35 : decode cX4_due 35 = .ok (.iconst 4, 1) := by decide +kernel
theorem dX4_due_36 : decode cX4_due 36 = .ok (.if_icmp .ne 5, 3) := by decide +kernel
theorem dX4_due_39 : decode cX4_due 39 = .ok (.iconst (-1), 1) := by decide +kernel
theorem dX4_due_40 : decode cX4_due 40 = .ok (.ireturn, 1) := by decide +kernel
theorem dX4_due_41 : decode cX4_due 41 = .ok (.aload_n 0, 1) := by decide +kernel
theorem dX4_due_42 : decode cX4_due 42 = .ok (.getfield 94, 3) := by decide +kernel
theorem dX4_due_45 : decode cX4_due 45 = .ok (.istore_n 3, 1) := by decide +kernel
theorem dX4_due_46 : decode cX4_due 46 = .ok (.iload_n 3, 1) := by decide +kernel
theorem dX4_due_47 : decode cX4_due 47 = .ok (.ldc 106, 2) := by decide +kernel
theorem dX4_due_49 : decode cX4_due 49 = .ok (.if_icmp .gt 29, 3) := by decide +kernel
theorem dX4_due_52 : decode cX4_due 52 = .ok (.aload_n 0, 1) := by decide +kernel
theorem dX4_due_53 : decode cX4_due 53 = .ok (.iload_n 3, 1) := by decide +kernel
theorem dX4_due_54 : decode cX4_due 54 = .ok (.invokevirtual 158, 3) := by decide +kernel
theorem dX4_due_57 : decode cX4_due 57 = .ok (.ifCond .ne 6, 3) := by decide +kernel
theorem dX4_due_60 : decode cX4_due 60 = .ok (.goto 12, 3) := by decide +kernel
theorem dX4_due_63 : decode cX4_due 63 = .ok (.iload_n 2, 1) := by decide +kernel
theorem dX4_due_64 : decode cX4_due 64 = .ok (.ifCond .ne 5, 3) := by decide +kernel
theorem dX4_due_67 : decode cX4_due 67 = .ok (.iload_n 3, 1) := by decide +kernel
theorem dX4_due_68 : decode cX4_due 68 = .ok (.ireturn, 1) := by decide +kernel
theorem dX4_due_69 : decode cX4_due 69 = .ok (.iinc 2 (-1), 3) := by decide +kernel
theorem dX4_due_72 : decode cX4_due 72 = .ok (.iinc 3 1, 3) := by decide +kernel
theorem dX4_due_75 : decode cX4_due 75 = .ok (.goto (-29), 3) := by decide +kernel
theorem dX4_due_78 : decode cX4_due 78 = .ok (.iconst (-1), 1) := by decide +kernel
theorem dX4_due_79 : decode cX4_due 79 = .ok (.ireturn, 1) := by decide +kernel
theorem dX4_passMinute_0 : decode cX4_passMinute 0 = .ok (.iconst 0, 1) := by decide +kernel
theorem dX4_passMinute_1 : decode cX4_passMinute 1 = .ok (.istore_n 1, 1) := by decide +kernel
theorem dX4_passMinute_2 : decode cX4_passMinute 2 = .ok (.iload_n 1, 1) := by decide +kernel
theorem dX4_passMinute_3 : decode cX4_passMinute 3 = .ok (.aload_n 0, 1) := by decide +kernel
theorem dX4_passMinute_4 : decode cX4_passMinute 4 = .ok (.getfield 80, 3) := by decide +kernel
theorem dX4_passMinute_7 : decode cX4_passMinute 7 = .ok (.if_icmp .ge 38, 3) := by decide +kernel
theorem dX4_passMinute_10 : decode cX4_passMinute 10 = .ok (.aload_n 0, 1) := by decide +kernel
theorem dX4_passMinute_11 : decode cX4_passMinute 11 = .ok (.getfield 35, 3) := by decide +kernel
theorem dX4_passMinute_14 : decode cX4_passMinute 14 = .ok (.iload_n 1, 1) := by decide +kernel
theorem dX4_passMinute_15 : decode cX4_passMinute 15 = .ok (.iaload, 1) := by decide +kernel
theorem dX4_passMinute_16 : decode cX4_passMinute 16 = .ok (.iconst (-1), 1) := by decide +kernel
theorem dX4_passMinute_17 : decode cX4_passMinute 17 = .ok (.if_icmp .eq 22, 3) := by decide +kernel
theorem dX4_passMinute_20 : decode cX4_passMinute 20 = .ok (.aload_n 0, 1) := by decide +kernel
theorem dX4_passMinute_21 : decode cX4_passMinute 21 = .ok (.iload_n 1, 1) := by decide +kernel
theorem dX4_passMinute_22 : decode cX4_passMinute 22 = .ok (.invokevirtual 122, 3) := by decide +kernel
theorem dX4_passMinute_25 : decode cX4_passMinute 25 = .ok (.ifCond .ne 14, 3) := by decide +kernel
theorem dX4_passMinute_28 : decode cX4_passMinute 28 = .ok (.aload_n 0, 1) := by decide +kernel
theorem dX4_passMinute_29 : decode cX4_passMinute 29 = .ok (.aload_n 0, 1) := by decide +kernel
theorem dX4_passMinute_30 : decode cX4_passMinute 30 = .ok (.getfield 35, 3) := by decide +kernel
theorem dX4_passMinute_33 : decode cX4_passMinute 33 = .ok (.iload_n 1, 1) := by decide +kernel
theorem dX4_passMinute_34 : decode cX4_passMinute 34 = .ok (.iaload, 1) := by decide +kernel
theorem dX4_passMinute_35 : decode cX4_passMinute 35 = .ok (.iconst 0, 1) := by decide +kernel
theorem dX4_passMinute_36 : decode cX4_passMinute 36 = .ok (.invokevirtual 118, 3) := by decide +kernel
theorem dX4_passMinute_39 : decode cX4_passMinute 39 = .ok (.iinc 1 1, 3) := by decide +kernel
theorem dX4_passMinute_42 : decode cX4_passMinute 42 = .ok (.goto (-40), 3) := by decide +kernel
theorem dX4_passMinute_45 : decode cX4_passMinute 45 = .ok (.iconst 0, 1) := by decide +kernel
theorem dX4_passMinute_46 : decode cX4_passMinute 46 = .ok (.istore_n 1, 1) := by decide +kernel
theorem dX4_passMinute_47 : decode cX4_passMinute 47 = .ok (.iload_n 1, 1) := by decide +kernel
theorem dX4_passMinute_48 : decode cX4_passMinute 48 = .ok (.aload_n 0, 1) := by decide +kernel
theorem dX4_passMinute_49 : decode cX4_passMinute 49 = .ok (.getfield 80, 3) := by decide +kernel
theorem dX4_passMinute_52 : decode cX4_passMinute 52 = .ok (.if_icmp .ge 88, 3) := by decide +kernel
theorem dX4_passMinute_55 : decode cX4_passMinute 55 = .ok (.aload_n 0, 1) := by decide +kernel
theorem dX4_passMinute_56 : decode cX4_passMinute 56 = .ok (.getfield 35, 3) := by decide +kernel
theorem dX4_passMinute_59 : decode cX4_passMinute 59 = .ok (.iload_n 1, 1) := by decide +kernel
theorem dX4_passMinute_60 : decode cX4_passMinute 60 = .ok (.iaload, 1) := by decide +kernel
theorem dX4_passMinute_61 : decode cX4_passMinute 61 = .ok (.iconst (-1), 1) := by decide +kernel
theorem dX4_passMinute_62 : decode cX4_passMinute 62 = .ok (.if_icmp .ne 19, 3) := by decide +kernel
theorem dX4_passMinute_65 : decode cX4_passMinute 65 = .ok (.aload_n 0, 1) := by decide +kernel
theorem dX4_passMinute_66 : decode cX4_passMinute 66 = .ok (.iload_n 1, 1) := by decide +kernel
theorem dX4_passMinute_67 : decode cX4_passMinute 67 = .ok (.invokevirtual 122, 3) := by decide +kernel
theorem dX4_passMinute_70 : decode cX4_passMinute 70 = .ok (.ifCond .eq 11, 3) := by decide +kernel
theorem dX4_passMinute_73 : decode cX4_passMinute 73 = .ok (.aload_n 0, 1) := by decide +kernel
theorem dX4_passMinute_74 : decode cX4_passMinute 74 = .ok (.iload_n 1, 1) := by decide +kernel
theorem dX4_passMinute_75 : decode cX4_passMinute 75 = .ok (.invokevirtual 134, 3) := by decide +kernel
theorem dX4_passMinute_78 : decode cX4_passMinute 78 = .ok (.goto 4, 3) := by decide +kernel
theorem dX4_passMinute_81 : decode cX4_passMinute 81 = .ok (.iconst (-1), 1) := by decide +kernel
theorem dX4_passMinute_82 : decode cX4_passMinute 82 = .ok (.istore_n 2, 1) := by decide +kernel
theorem dX4_passMinute_83 : decode cX4_passMinute 83 = .ok (.iload_n 2, 1) := by decide +kernel
theorem dX4_passMinute_84 : decode cX4_passMinute 84 = .ok (.iconst (-1), 1) := by decide +kernel
theorem dX4_passMinute_85 : decode cX4_passMinute 85 = .ok (.if_icmp .ne 6, 3) := by decide +kernel
theorem dX4_passMinute_88 : decode cX4_passMinute 88 = .ok (.goto 46, 3) := by decide +kernel
theorem dX4_passMinute_91 : decode cX4_passMinute 91 = .ok (.aload_n 0, 1) := by decide +kernel
theorem dX4_passMinute_92 : decode cX4_passMinute 92 = .ok (.getfield 35, 3) := by decide +kernel
theorem dX4_passMinute_95 : decode cX4_passMinute 95 = .ok (.iload_n 1, 1) := by decide +kernel
theorem dX4_passMinute_96 : decode cX4_passMinute 96 = .ok (.iload_n 2, 1) := by decide +kernel
theorem dX4_passMinute_97 : decode cX4_passMinute 97 = .ok (.iastore, 1) := by decide +kernel
theorem dX4_passMinute_98 : decode cX4_passMinute 98 = .ok (.aload_n 0, 1) := by decide +kernel
theorem dX4_passMinute_99 : decode cX4_passMinute 99 = .ok (.getfield 56, 3) := by decide +kernel
theorem dX4_passMinute_102 : decode cX4_passMinute 102 = .ok (.iload_n 2, 1) := by decide +kernel
theorem dX4_passMinute_103 : decode cX4_passMinute 103 = .ok (.iconst 1, 1) := by decide +kernel
theorem dX4_passMinute_104 : decode cX4_passMinute 104 = .ok (.iastore, 1) := by decide +kernel
theorem dX4_passMinute_105 : decode cX4_passMinute 105 = .ok (.aload_n 0, 1) := by decide +kernel
theorem dX4_passMinute_106 : decode cX4_passMinute 106 = .ok (.getfield 68, 3) := by decide +kernel
theorem dX4_passMinute_109 : decode cX4_passMinute 109 = .ok (.iload_n 2, 1) := by decide +kernel
theorem dX4_passMinute_110 : decode cX4_passMinute 110 = .ok (.iaload, 1) := by decide +kernel
theorem dX4_passMinute_111 : decode cX4_passMinute 111 = .ok (.iconst (-1), 1) := by decide +kernel
theorem dX4_passMinute_112 : decode cX4_passMinute 112 = .ok (.if_icmp .ne 15, 3) := by decide +kernel
theorem dX4_passMinute_115 : decode cX4_passMinute 115 = .ok (.aload_n 0, 1) := by decide +kernel
theorem dX4_passMinute_116 : decode cX4_passMinute 116 = .ok (.getfield 68, 3) := by decide +kernel
theorem dX4_passMinute_119 : decode cX4_passMinute 119 = .ok (.iload_n 2, 1) := by decide +kernel
theorem dX4_passMinute_120 : decode cX4_passMinute 120 = .ok (.aload_n 0, 1) := by decide +kernel
theorem dX4_passMinute_121 : decode cX4_passMinute 121 = .ok (.getfield 59, 3) := by decide +kernel
theorem dX4_passMinute_124 : decode cX4_passMinute 124 = .ok (.iload_n 2, 1) := by decide +kernel
theorem dX4_passMinute_125 : decode cX4_passMinute 125 = .ok (.iaload, 1) := by decide +kernel
theorem dX4_passMinute_126 : decode cX4_passMinute 126 = .ok (.iastore, 1) := by decide +kernel
theorem dX4_passMinute_127 : decode cX4_passMinute 127 = .ok (.aload_n 0, 1) := by decide +kernel
theorem dX4_passMinute_128 : decode cX4_passMinute 128 = .ok (.getfield 65, 3) := by decide +kernel
theorem dX4_passMinute_131 : decode cX4_passMinute 131 = .ok (.iload_n 2, 1) := by decide +kernel
theorem dX4_passMinute_132 : decode cX4_passMinute 132 = .ok (.iload_n 1, 1) := by decide +kernel
theorem dX4_passMinute_133 : decode cX4_passMinute 133 = .ok (.iastore, 1) := by decide +kernel
theorem dX4_passMinute_134 : decode cX4_passMinute 134 = .ok (.iinc 1 1, 3) := by decide +kernel
theorem dX4_passMinute_137 : decode cX4_passMinute 137 = .ok (.goto (-90), 3) := by decide +kernel
theorem dX4_passMinute_140 : decode cX4_passMinute 140 = .ok (.aload_n 0, 1) := by decide +kernel
theorem dX4_passMinute_141 : decode cX4_passMinute 141 = .ok (.aload_n 0, 1) := by decide +kernel
theorem dX4_passMinute_142 : decode cX4_passMinute 142 = .ok (.getfield 94, 3) := by decide +kernel
theorem dX4_passMinute_145 : decode cX4_passMinute 145 = .ok (.invokevirtual 158, 3) := by decide +kernel
theorem dX4_passMinute_148 : decode cX4_passMinute 148 = .ok (.ifCond .eq 43, 3) := by decide +kernel
theorem dX4_passMinute_151 : decode cX4_passMinute 151 = .ok (.iconst 0, 1) := by decide +kernel
theorem dX4_passMinute_152 : decode cX4_passMinute 152 = .ok (.istore_n 1, 1) := by decide +kernel
theorem dX4_passMinute_153 : decode cX4_passMinute 153 = .ok (.iload_n 1, 1) := by decide +kernel
theorem dX4_passMinute_154 : decode cX4_passMinute 154 = .ok (.aload_n 0, 1) := by decide +kernel
theorem dX4_passMinute_155 : decode cX4_passMinute 155 = .ok (.getfield 87, 3) := by decide +kernel
theorem dX4_passMinute_158 : decode cX4_passMinute 158 = .ok (.if_icmp .ge 33, 3) := by decide +kernel
theorem dX4_passMinute_161 : decode cX4_passMinute 161 = .ok (.aload_n 0, 1) := by decide +kernel
theorem dX4_passMinute_162 : decode cX4_passMinute 162 = .ok (.getfield 59, 3) := by decide +kernel
theorem dX4_passMinute_165 : decode cX4_passMinute 165 = .ok (.iload_n 1, 1) := by decide +kernel
theorem dX4_passMinute_166 : decode cX4_passMinute 166 = .ok (.dup2, 1) := by decide +kernel
theorem dX4_passMinute_167 : decode cX4_passMinute 167 = .ok (.iaload, 1) := by decide +kernel
theorem dX4_passMinute_168 : decode cX4_passMinute 168 = .ok (.aload_n 0, 1) := by decide +kernel
theorem dX4_passMinute_169 : decode cX4_passMinute 169 = .ok (.getfield 56, 3) := by decide +kernel
theorem dX4_passMinute_172 : decode cX4_passMinute 172 = .ok (.iload_n 1, 1) := by decide +kernel
theorem dX4_passMinute_173 : decode cX4_passMinute 173 = .ok (.iaload, 1) := by decide +kernel
theorem dX4_passMinute_174 : decode cX4_passMinute 174 = .ok (.iconst 1, 1) := by decide +kernel
theorem dX4_passMinute_175 : decode cX4_passMinute 175 = .ok (.if_icmp .gt 7, 3) := by decide +kernel
theorem dX4_passMinute_178 : decode cX4_passMinute 178 = .ok (.iconst 1, 1) := by decide +kernel
theorem dX4_passMinute_179 : decode cX4_passMinute 179 = .ok (.goto 4, 3) := by decide +kernel
theorem dX4_passMinute_182 : decode cX4_passMinute 182 = .ok (.iconst 0, 1) := by decide +kernel
theorem dX4_passMinute_183 : decode cX4_passMinute 183 = .ok (.iadd, 1) := by decide +kernel
theorem dX4_passMinute_184 : decode cX4_passMinute 184 = .ok (.iastore, 1) := by decide +kernel
theorem dX4_passMinute_185 : decode cX4_passMinute 185 = .ok (.iinc 1 1, 3) := by decide +kernel
theorem dX4_passMinute_188 : decode cX4_passMinute 188 = .ok (.goto (-35), 3) := by decide +kernel
theorem dX4_passMinute_191 : decode cX4_passMinute 191 = .ok (.iconst 0, 1) := by decide +kernel
theorem dX4_passMinute_192 : decode cX4_passMinute 192 = .ok (.istore_n 1, 1) := by decide +kernel
theorem dX4_passMinute_193 : decode cX4_passMinute 193 = .ok (.iconst 0, 1) := by decide +kernel
theorem dX4_passMinute_194 : decode cX4_passMinute 194 = .ok (.istore_n 2, 1) := by decide +kernel
theorem dX4_passMinute_195 : decode cX4_passMinute 195 = .ok (.iload_n 2, 1) := by decide +kernel
theorem dX4_passMinute_196 : decode cX4_passMinute 196 = .ok (.aload_n 0, 1) := by decide +kernel
theorem dX4_passMinute_197 : decode cX4_passMinute 197 = .ok (.getfield 80, 3) := by decide +kernel
theorem dX4_passMinute_200 : decode cX4_passMinute 200 = .ok (.if_icmp .ge 93, 3) := by decide +kernel
theorem dX4_passMinute_203 : decode cX4_passMinute 203 = .ok (.aload_n 0, 1) := by decide +kernel
theorem dX4_passMinute_204 : decode cX4_passMinute 204 = .ok (.getfield 35, 3) := by decide +kernel
theorem dX4_passMinute_207 : decode cX4_passMinute 207 = .ok (.iload_n 2, 1) := by decide +kernel
theorem dX4_passMinute_208 : decode cX4_passMinute 208 = .ok (.iaload, 1) := by decide +kernel
theorem dX4_passMinute_209 : decode cX4_passMinute 209 = .ok (.istore_n 3, 1) := by decide +kernel
theorem dX4_passMinute_210 : decode cX4_passMinute 210 = .ok (.iload_n 3, 1) := by decide +kernel
theorem dX4_passMinute_211 : decode cX4_passMinute 211 = .ok (.iconst (-1), 1) := by decide +kernel
theorem dX4_passMinute_212 : decode cX4_passMinute 212 = .ok (.if_icmp .ne 6, 3) := by decide +kernel
theorem dX4_passMinute_215 : decode cX4_passMinute 215 = .ok (.goto 72, 3) := by decide +kernel
theorem dX4_passMinute_218 : decode cX4_passMinute 218 = .ok (.aload_n 0, 1) := by decide +kernel
theorem dX4_passMinute_219 : decode cX4_passMinute 219 = .ok (.getfield 38, 3) := by decide +kernel
theorem dX4_passMinute_222 : decode cX4_passMinute 222 = .ok (.iload_n 2, 1) := by decide +kernel
theorem dX4_passMinute_223 : decode cX4_passMinute 223 = .ok (.dup2, 1) := by decide +kernel
theorem dX4_passMinute_224 : decode cX4_passMinute 224 = .ok (.iaload, 1) := by decide +kernel
theorem dX4_passMinute_225 : decode cX4_passMinute 225 = .ok (.iconst 1, 1) := by decide +kernel
theorem dX4_passMinute_226 : decode cX4_passMinute 226 = .ok (.iadd, 1) := by decide +kernel
theorem dX4_passMinute_227 : decode cX4_passMinute 227 = .ok (.iastore, 1) := by decide +kernel
theorem dX4_passMinute_228 : decode cX4_passMinute 228 = .ok (.aload_n 0, 1) := by decide +kernel
theorem dX4_passMinute_229 : decode cX4_passMinute 229 = .ok (.getfield 62, 3) := by decide +kernel
theorem dX4_passMinute_232 : decode cX4_passMinute 232 = .ok (.iload_n 3, 1) := by decide +kernel
theorem dX4_passMinute_233 : decode cX4_passMinute 233 = .ok (.dup2, 1) := by decide +kernel
theorem dX4_passMinute_234 : decode cX4_passMinute 234 = .ok (.iaload, 1) := by decide +kernel
theorem dX4_passMinute_235 : decode cX4_passMinute 235 = .ok (.iconst 1, 1) := by decide +kernel
theorem dX4_passMinute_236 : decode cX4_passMinute 236 = .ok (.iadd, 1) := by decide +kernel
theorem dX4_passMinute_237 : decode cX4_passMinute 237 = .ok (.iastore, 1) := by decide +kernel
theorem dX4_passMinute_238 : decode cX4_passMinute 238 = .ok (.aload_n 0, 1) := by decide +kernel
theorem dX4_passMinute_239 : decode cX4_passMinute 239 = .ok (.getfield 62, 3) := by decide +kernel
theorem dX4_passMinute_242 : decode cX4_passMinute 242 = .ok (.iload_n 3, 1) := by decide +kernel
theorem dX4_passMinute_243 : decode cX4_passMinute 243 = .ok (.iaload, 1) := by decide +kernel
theorem dX4_passMinute_244 : decode cX4_passMinute 244 = .ok (.aload_n 0, 1) := by decide +kernel
theorem dX4_passMinute_245 : decode cX4_passMinute 245 = .ok (.getfield 50, 3) := by decide +kernel
theorem dX4_passMinute_248 : decode cX4_passMinute 248 = .ok (.iload_n 3, 1) := by decide +kernel
theorem dX4_passMinute_249 : decode cX4_passMinute 249 = .ok (.iaload, 1) := by decide +kernel
theorem dX4_passMinute_250 : decode cX4_passMinute 250 = .ok (.if_icmp .ge 6, 3) := by decide +kernel
theorem dX4_passMinute_253 : decode cX4_passMinute 253 = .ok (.goto 34, 3) := by decide +kernel
theorem dX4_passMinute_256 : decode cX4_passMinute 256 = .ok (.aload_n 0, 1) := by decide +kernel
theorem dX4_passMinute_257 : decode cX4_passMinute 257 = .ok (.iload_n 3, 1) := by decide +kernel
theorem dX4_passMinute_258 : decode cX4_passMinute 258 = .ok (.iconst 3, 1) := by decide +kernel
theorem dX4_passMinute_259 : decode cX4_passMinute 259 = .ok (.invokevirtual 118, 3) := by decide +kernel
theorem dX4_passMinute_262 : decode cX4_passMinute 262 = .ok (.aload_n 0, 1) := by decide +kernel
theorem dX4_passMinute_263 : decode cX4_passMinute 263 = .ok (.getfield 74, 3) := by decide +kernel
theorem dX4_passMinute_266 : decode cX4_passMinute 266 = .ok (.iload_n 3, 1) := by decide +kernel
theorem dX4_passMinute_267 : decode cX4_passMinute 267 = .ok (.aload_n 0, 1) := by decide +kernel
theorem dX4_passMinute_268 : decode cX4_passMinute 268 = .ok (.getfield 94, 3) := by decide +kernel
theorem dX4_passMinute_271 : decode cX4_passMinute 271 = .ok (.iconst 1, 1) := by decide +kernel
theorem dX4_passMinute_272 : decode cX4_passMinute 272 = .ok (.iadd, 1) := by decide +kernel
theorem dX4_passMinute_273 : decode cX4_passMinute 273 = .ok (.iastore, 1) := by decide +kernel
theorem dX4_passMinute_274 : decode cX4_passMinute 274 = .ok (.aload_n 0, 1) := by decide +kernel
theorem dX4_passMinute_275 : decode cX4_passMinute 275 = .ok (.getfield 41, 3) := by decide +kernel
theorem dX4_passMinute_278 : decode cX4_passMinute 278 = .ok (.iload_n 2, 1) := by decide +kernel
theorem dX4_passMinute_279 : decode cX4_passMinute 279 = .ok (.dup2, 1) := by decide +kernel
theorem dX4_passMinute_280 : decode cX4_passMinute 280 = .ok (.iaload, 1) := by decide +kernel
theorem dX4_passMinute_281 : decode cX4_passMinute 281 = .ok (.iconst 1, 1) := by decide +kernel
theorem dX4_passMinute_282 : decode cX4_passMinute 282 = .ok (.iadd, 1) := by decide +kernel
theorem dX4_passMinute_283 : decode cX4_passMinute 283 = .ok (.iastore, 1) := by decide +kernel
theorem dX4_passMinute_284 : decode cX4_passMinute 284 = .ok (.iinc 1 1, 3) := by decide +kernel
theorem dX4_passMinute_287 : decode cX4_passMinute 287 = .ok (.iinc 2 1, 3) := by decide +kernel
theorem dX4_passMinute_290 : decode cX4_passMinute 290 = .ok (.goto (-95), 3) := by decide +kernel
theorem dX4_passMinute_293 : decode cX4_passMinute 293 = .ok (.aload_n 0, 1) := by decide +kernel
theorem dX4_passMinute_294 : decode cX4_passMinute 294 = .ok (.dup, 1) := by decide +kernel
theorem dX4_passMinute_295 : decode cX4_passMinute 295 = .ok (.getfield 94, 3) := by decide +kernel
theorem dX4_passMinute_298 : decode cX4_passMinute 298 = .ok (.iconst 1, 1) := by decide +kernel
theorem dX4_passMinute_299 : decode cX4_passMinute 299 = .ok (.iadd, 1) := by decide +kernel
theorem dX4_passMinute_300 : decode cX4_passMinute 300 = .ok (.putfield 94, 3) := by decide +kernel
theorem dX4_passMinute_303 : decode cX4_passMinute 303 = .ok (.iload_n 1, 1) := by decide +kernel
theorem dX4_passMinute_304 : decode cX4_passMinute 304 = .ok (.ireturn, 1) := by decide +kernel
theorem dX4_pass_0 : decode cX4_pass 0 = .ok (.aload_n 0, 1) := by decide +kernel
theorem dX4_pass_1 : decode cX4_pass 1 = .ok (.iconst 0, 1) := by decide +kernel
theorem dX4_pass_2 : decode cX4_pass 2 = .ok (.putfield 77, 3) := by decide +kernel
theorem dX4_pass_5 : decode cX4_pass 5 = .ok (.iload_n 1, 1) := by decide +kernel
theorem dX4_pass_6 : decode cX4_pass 6 = .ok (.iconst 1, 1) := by decide +kernel
theorem dX4_pass_7 : decode cX4_pass 7 = .ok (.sipush 600, 3) := by decide +kernel
theorem dX4_pass_10 : decode cX4_pass 10 = .ok (.invokestatic 83, 3) := by decide +kernel
theorem dX4_pass_13 : decode cX4_pass 13 = .ok (.ifCond .ne 9, 3) := by decide +kernel
theorem dX4_pass_16 : decode cX4_pass 16 = .ok (.aload_n 0, 1) := by decide +kernel
theorem dX4_pass_17 : decode cX4_pass 17 = .ok (.iconst 1, 1) := by decide +kernel
theorem dX4_pass_18 : decode cX4_pass 18 = .ok (.invokevirtual 90, 3) := by decide +kernel
theorem dX4_pass_21 : decode cX4_pass 21 = .ok (.ireturn, 1) := by decide +kernel
theorem dX4_pass_22 : decode cX4_pass 22 = .ok (.aload_n 0, 1) := by decide +kernel
theorem dX4_pass_23 : decode cX4_pass 23 = .ok (.getfield 94, 3) := by decide +kernel
theorem dX4_pass_26 : decode cX4_pass 26 = .ok (.iload_n 1, 1) := by decide +kernel
theorem dX4_pass_27 : decode cX4_pass 27 = .ok (.iadd, 1) := by decide +kernel
theorem dX4_pass_28 : decode cX4_pass 28 = .ok (.ldc 106, 2) := by decide +kernel
theorem dX4_pass_30 : decode cX4_pass 30 = .ok (.if_icmp .le 9, 3) := by decide +kernel
theorem dX4_pass_33 : decode cX4_pass 33 = .ok (.aload_n 0, 1) := by decide +kernel
theorem dX4_pass_34 : decode cX4_pass 34 = .ok (.iconst 2, 1) := by decide +kernel
theorem dX4_pass_35 : decode cX4_pass 35 = .ok (.invokevirtual 90, 3) := by decide +kernel
theorem dX4_pass_38 : decode cX4_pass 38 = .ok (.ireturn, 1) := by decide +kernel
theorem dX4_pass_39 : decode cX4_pass 39 = .ok (.iconst 0, 1) := by decide +kernel
theorem dX4_pass_40 : decode cX4_pass 40 = .ok (.istore_n 2, 1) := by decide +kernel
theorem dX4_pass_41 : decode cX4_pass 41 = .ok (.iconst 0, 1) := by decide +kernel
theorem dX4_pass_42 : decode cX4_pass 42 = .ok (.istore_n 3, 1) := by decide +kernel
theorem dX4_pass_43 : decode cX4_pass 43 = .ok (.iload_n 3, 1) := by decide +kernel
theorem dX4_pass_44 : decode cX4_pass 44 = .ok (.iload_n 1, 1) := by decide +kernel
theorem dX4_pass_45 : decode cX4_pass 45 = .ok (.if_icmp .ge 16, 3) := by decide +kernel
theorem dX4_pass_48 : decode cX4_pass 48 = .ok (.iload_n 2, 1) := by decide +kernel
theorem dX4_pass_49 : decode cX4_pass 49 = .ok (.aload_n 0, 1) := by decide +kernel
theorem dX4_pass_50 : decode cX4_pass 50 = .ok (.invokevirtual 161, 3) := by decide +kernel
theorem dX4_pass_53 : decode cX4_pass 53 = .ok (.iadd, 1) := by decide +kernel
theorem dX4_pass_54 : decode cX4_pass 54 = .ok (.istore_n 2, 1) := by decide +kernel
theorem dX4_pass_55 : decode cX4_pass 55 = .ok (.iinc 3 1, 3) := by decide +kernel
theorem dX4_pass_58 : decode cX4_pass 58 = .ok (.goto (-15), 3) := by decide +kernel
theorem dX4_pass_61 : decode cX4_pass 61 = .ok (.iload_n 2, 1) := by decide +kernel
theorem dX4_pass_62 : decode cX4_pass 62 = .ok (.ireturn, 1) := by decide +kernel
theorem dX4_all_0 : decode cX4_all 0 = .ok (.aload_n 0, 1) := by decide +kernel
theorem dX4_all_1 : decode cX4_all 1 = .ok (.iconst 0, 1) := by decide +kernel
theorem dX4_all_2 : decode cX4_all 2 = .ok (.putfield 77, 3) := by decide +kernel
theorem dX4_all_5 : decode cX4_all 5 = .ok (.iload_n 1, 1) := by decide +kernel
theorem dX4_all_6 : decode cX4_all 6 = .ok (.iconst 0, 1) := by decide +kernel
theorem dX4_all_7 : decode cX4_all 7 = .ok (.iconst 4, 1) := by decide +kernel
theorem dX4_all_8 : decode cX4_all 8 = .ok (.invokestatic 83, 3) := by decide +kernel
theorem dX4_all_11 : decode cX4_all 11 = .ok (.ifCond .ne 9, 3) := by decide +kernel
theorem dX4_all_14 : decode cX4_all 14 = .ok (.aload_n 0, 1) := by decide +kernel
theorem dX4_all_15 : decode cX4_all 15 = .ok (.iconst 1, 1) := by decide +kernel
theorem dX4_all_16 : decode cX4_all 16 = .ok (.invokevirtual 90, 3) := by decide +kernel
theorem dX4_all_19 : decode cX4_all 19 = .ok (.ireturn, 1) := by decide +kernel
theorem dX4_all_20 : decode cX4_all 20 = .ok (.iconst 0, 1) := by decide +kernel
theorem dX4_all_21 : decode cX4_all 21 = .ok (.istore_n 2, 1) := by decide +kernel
theorem dX4_all_22 : decode cX4_all 22 = .ok (.iconst 0, 1) := by decide +kernel
theorem dX4_all_23 : decode cX4_all 23 = .ok (.istore_n 3, 1) := by decide +kernel
theorem dX4_all_24 : decode cX4_all 24 = .ok (.iload_n 3, 1) := by decide +kernel
theorem dX4_all_25 : decode cX4_all 25 = .ok (.aload_n 0, 1) := by decide +kernel
theorem dX4_all_26 : decode cX4_all 26 = .ok (.getfield 87, 3) := by decide +kernel
theorem dX4_all_29 : decode cX4_all 29 = .ok (.if_icmp .ge 25, 3) := by decide +kernel
theorem dX4_all_32 : decode cX4_all 32 = .ok (.aload_n 0, 1) := by decide +kernel
theorem dX4_all_33 : decode cX4_all 33 = .ok (.getfield 56, 3) := by decide +kernel
theorem dX4_all_36 : decode cX4_all 36 = .ok (.iload_n 3, 1) := by decide +kernel
theorem dX4_all_37 : decode cX4_all 37 = .ok (.iaload, 1) := by decide +kernel
theorem dX4_all_38 : decode cX4_all 38 = .ok (.iload_n 1, 1) := by decide +kernel
theorem dX4_all_39 : decode cX4_all 39 = .ok (.if_icmp .ne 9, 3) := by decide +kernel
theorem dX4_all_42 : decode cX4_all 42 = .ok (.iload_n 2, 1) := by decide +kernel
theorem dX4_all_43 : decode cX4_all 43 = .ok (.iconst 1, 1) := by decide +kernel
theorem dX4_all_44 : decode cX4_all 44 = .ok (.iload_n 3, 1) := by decide +kernel
theorem dX4_all_45 : decode cX4_all 45 = .ok (.ishl, 1) := by decide +kernel
theorem dX4_all_46 : decode cX4_all 46 = .ok (.ior, 1) := by decide +kernel
theorem dX4_all_47 : decode cX4_all 47 = .ok (.istore_n 2, 1) := by decide +kernel
theorem dX4_all_48 : decode cX4_all 48 = .ok (.iinc 3 1, 3) := by decide +kernel
theorem dX4_all_51 : decode cX4_all 51 = .ok (.goto (-27), 3) := by decide +kernel
theorem dX4_all_54 : decode cX4_all 54 = .ok (.iload_n 2, 1) := by decide +kernel
theorem dX4_all_55 : decode cX4_all 55 = .ok (.ireturn, 1) := by decide +kernel
theorem dX4_breaks_0 : decode cX4_breaks 0 = .ok (.aload_n 0, 1) := by decide +kernel
theorem dX4_breaks_1 : decode cX4_breaks 1 = .ok (.getfield 56, 3) := by decide +kernel
theorem dX4_breaks_4 : decode cX4_breaks 4 = .ok (.iload_n 1, 1) := by decide +kernel
theorem dX4_breaks_5 : decode cX4_breaks 5 = .ok (.iaload, 1) := by decide +kernel
theorem dX4_breaks_6 : decode cX4_breaks 6 = .ok (.iconst 4, 1) := by decide +kernel
theorem dX4_breaks_7 : decode cX4_breaks 7 = .ok (.if_icmp .ne 5, 3) := by decide +kernel
theorem dX4_breaks_10 : decode cX4_breaks 10 = .ok (.iconst 0, 1) := by decide +kernel
theorem dX4_breaks_11 : decode cX4_breaks 11 = .ok (.ireturn, 1) := by decide +kernel
theorem dX4_breaks_12 : decode cX4_breaks 12 = .ok (.iload_n 2, 1) := by decide +kernel
theorem dX4_breaks_13 : decode cX4_breaks 13 = .ok (.ifCond .ne 29, 3) := by decide +kernel
theorem dX4_breaks_16 : decode cX4_breaks 16 = .ok (.aload_n 0, 1) := by decide +kernel
theorem dX4_breaks_17 : decode cX4_breaks 17 = .ok (.getfield 59, 3) := by decide +kernel
theorem dX4_breaks_20 : decode cX4_breaks 20 = .ok (.iload_n 1, 1) := by decide +kernel
theorem dX4_breaks_21 : decode cX4_breaks 21 = .ok (.iaload, 1) := by decide +kernel
theorem dX4_breaks_22 : decode cX4_breaks 22 = .ok (.aload_n 0, 1) := by decide +kernel
theorem dX4_breaks_23 : decode cX4_breaks 23 = .ok (.getfield 20, 3) := by decide +kernel
theorem dX4_breaks_26 : decode cX4_breaks 26 = .ok (.aload_n 0, 1) := by decide +kernel
theorem dX4_breaks_27 : decode cX4_breaks 27 = .ok (.getfield 47, 3) := by decide +kernel
theorem dX4_breaks_30 : decode cX4_breaks 30 = .ok (.iload_n 1, 1) := by decide +kernel
theorem dX4_breaks_31 : decode cX4_breaks 31 = .ok (.iaload, 1) := by decide +kernel
theorem dX4_breaks_32 : decode cX4_breaks 32 = .ok (.iaload, 1) := by decide +kernel
theorem dX4_breaks_33 : decode cX4_breaks 33 = .ok (.if_icmp .le 7, 3) := by decide +kernel
theorem dX4_breaks_36 : decode cX4_breaks 36 = .ok (.iconst 1, 1) := by decide +kernel
theorem dX4_breaks_37 : decode cX4_breaks 37 = .ok (.goto 4, 3) := by decide +kernel
theorem dX4_breaks_40 : decode cX4_breaks 40 = .ok (.iconst 0, 1) := by decide +kernel
theorem dX4_breaks_41 : decode cX4_breaks 41 = .ok (.ireturn, 1) := by decide +kernel
theorem dX4_breaks_42 : decode cX4_breaks 42 = .ok (.aload_n 0, 1) := by decide +kernel
theorem dX4_breaks_43 : decode cX4_breaks 43 = .ok (.getfield 68, 3) := by decide +kernel
theorem dX4_breaks_46 : decode cX4_breaks 46 = .ok (.iload_n 1, 1) := by decide +kernel
theorem dX4_breaks_47 : decode cX4_breaks 47 = .ok (.iaload, 1) := by decide +kernel
theorem dX4_breaks_48 : decode cX4_breaks 48 = .ok (.iconst (-1), 1) := by decide +kernel
theorem dX4_breaks_49 : decode cX4_breaks 49 = .ok (.if_icmp .ne 12, 3) := by decide +kernel
theorem dX4_breaks_52 : decode cX4_breaks 52 = .ok (.aload_n 0, 1) := by decide +kernel
theorem dX4_breaks_53 : decode cX4_breaks 53 = .ok (.getfield 59, 3) := by decide +kernel
theorem dX4_breaks_56 : decode cX4_breaks 56 = .ok (.iload_n 1, 1) := by decide +kernel
theorem dX4_breaks_57 : decode cX4_breaks 57 = .ok (.iaload, 1) := by decide +kernel
theorem dX4_breaks_58 : decode cX4_breaks 58 = .ok (.goto 9, 3) := by decide +kernel
theorem dX4_breaks_61 : decode cX4_breaks 61 = .ok (.aload_n 0, 1) := by decide +kernel
theorem dX4_breaks_62 : decode cX4_breaks 62 = .ok (.getfield 68, 3) := by decide +kernel
theorem dX4_breaks_65 : decode cX4_breaks 65 = .ok (.iload_n 1, 1) := by decide +kernel
theorem dX4_breaks_66 : decode cX4_breaks 66 = .ok (.iaload, 1) := by decide +kernel
theorem dX4_breaks_67 : decode cX4_breaks 67 = .ok (.aload_n 0, 1) := by decide +kernel
theorem dX4_breaks_68 : decode cX4_breaks 68 = .ok (.getfield 16, 3) := by decide +kernel
theorem dX4_breaks_71 : decode cX4_breaks 71 = .ok (.aload_n 0, 1) := by decide +kernel
theorem dX4_breaks_72 : decode cX4_breaks 72 = .ok (.getfield 47, 3) := by decide +kernel
theorem dX4_breaks_75 : decode cX4_breaks 75 = .ok (.iload_n 1, 1) := by decide +kernel
theorem dX4_breaks_76 : decode cX4_breaks 76 = .ok (.iaload, 1) := by decide +kernel
theorem dX4_breaks_77 : decode cX4_breaks 77 = .ok (.iaload, 1) := by decide +kernel
theorem dX4_breaks_78 : decode cX4_breaks 78 = .ok (.if_icmp .le 7, 3) := by decide +kernel
theorem dX4_breaks_81 : decode cX4_breaks 81 = .ok (.iconst 1, 1) := by decide +kernel
theorem dX4_breaks_82 : decode cX4_breaks 82 = .ok (.goto 4, 3) := by decide +kernel
theorem dX4_breaks_85 : decode cX4_breaks 85 = .ok (.iconst 0, 1) := by decide +kernel
theorem dX4_breaks_86 : decode cX4_breaks 86 = .ok (.ireturn, 1) := by decide +kernel
theorem dX4_broken_0 : decode cX4_broken 0 = .ok (.aload_n 0, 1) := by decide +kernel
theorem dX4_broken_1 : decode cX4_broken 1 = .ok (.iconst 0, 1) := by decide +kernel
theorem dX4_broken_2 : decode cX4_broken 2 = .ok (.putfield 77, 3) := by decide +kernel
theorem dX4_broken_5 : decode cX4_broken 5 = .ok (.iconst 0, 1) := by decide +kernel
theorem dX4_broken_6 : decode cX4_broken 6 = .ok (.istore_n 2, 1) := by decide +kernel
theorem dX4_broken_7 : decode cX4_broken 7 = .ok (.iconst 0, 1) := by decide +kernel
theorem dX4_broken_8 : decode cX4_broken 8 = .ok (.istore_n 3, 1) := by decide +kernel
theorem dX4_broken_9 : decode cX4_broken 9 = .ok (.iload_n 3, 1) := by decide +kernel
theorem dX4_broken_10 : decode cX4_broken 10 = .ok (.aload_n 0, 1) := by decide +kernel
theorem dX4_broken_11 : decode cX4_broken 11 = .ok (.getfield 87, 3) := by decide +kernel
theorem dX4_broken_14 : decode cX4_broken 14 = .ok (.if_icmp .ge 24, 3) := by decide +kernel
theorem dX4_broken_17 : decode cX4_broken 17 = .ok (.aload_n 0, 1) := by decide +kernel
theorem dX4_broken_18 : decode cX4_broken 18 = .ok (.iload_n 3, 1) := by decide +kernel
theorem dX4_broken_19 : decode cX4_broken 19 = .ok (.iload_n 1, 1) := by decide +kernel
theorem dX4_broken_20 : decode cX4_broken 20 = .ok (.invokevirtual 165, 3) := by decide +kernel
theorem dX4_broken_23 : decode cX4_broken 23 = .ok (.ifCond .eq 9, 3) := by decide +kernel
theorem dX4_broken_26 : decode cX4_broken 26 = .ok (.iload_n 2, 1) := by decide +kernel
theorem dX4_broken_27 : decode cX4_broken 27 = .ok (.iconst 1, 1) := by decide +kernel
theorem dX4_broken_28 : decode cX4_broken 28 = .ok (.iload_n 3, 1) := by decide +kernel
theorem dX4_broken_29 : decode cX4_broken 29 = .ok (.ishl, 1) := by decide +kernel
theorem dX4_broken_30 : decode cX4_broken 30 = .ok (.ior, 1) := by decide +kernel
theorem dX4_broken_31 : decode cX4_broken 31 = .ok (.istore_n 2, 1) := by decide +kernel
theorem dX4_broken_32 : decode cX4_broken 32 = .ok (.iinc 3 1, 3) := by decide +kernel
theorem dX4_broken_35 : decode cX4_broken 35 = .ok (.goto (-26), 3) := by decide +kernel
theorem dX4_broken_38 : decode cX4_broken 38 = .ok (.iload_n 2, 1) := by decide +kernel
theorem dX4_broken_39 : decode cX4_broken 39 = .ok (.ireturn, 1) := by decide +kernel
theorem dX4_lacking_0 : decode cX4_lacking 0 = .ok (.aload_n 0, 1) := by decide +kernel
theorem dX4_lacking_1 : decode cX4_lacking 1 = .ok (.iconst 0, 1) := by decide +kernel
theorem dX4_lacking_2 : decode cX4_lacking 2 = .ok (.putfield 77, 3) := by decide +kernel
theorem dX4_lacking_5 : decode cX4_lacking 5 = .ok (.iconst 0, 1) := by decide +kernel
theorem dX4_lacking_6 : decode cX4_lacking 6 = .ok (.istore_n 1, 1) := by decide +kernel
theorem dX4_lacking_7 : decode cX4_lacking 7 = .ok (.iconst 0, 1) := by decide +kernel
theorem dX4_lacking_8 : decode cX4_lacking 8 = .ok (.istore_n 2, 1) := by decide +kernel
theorem dX4_lacking_9 : decode cX4_lacking 9 = .ok (.iload_n 2, 1) := by decide +kernel
theorem dX4_lacking_10 : decode cX4_lacking 10 = .ok (.aload_n 0, 1) := by decide +kernel
theorem dX4_lacking_11 : decode cX4_lacking 11 = .ok (.getfield 87, 3) := by decide +kernel
theorem dX4_lacking_14 : decode cX4_lacking 14 = .ok (.if_icmp .ge 28, 3) := by decide +kernel
theorem dX4_lacking_17 : decode cX4_lacking 17 = .ok (.aload_n 0, 1) := by decide +kernel
theorem dX4_lacking_18 : decode cX4_lacking 18 = .ok (.iload_n 2, 1) := by decide +kernel
theorem dX4_lacking_19 : decode cX4_lacking 19 = .ok (.invokevirtual 140, 3) := by decide +kernel
theorem dX4_lacking_22 : decode cX4_lacking 22 = .ok (.ifCond .eq 14, 3) := by decide +kernel
theorem dX4_lacking_25 : decode cX4_lacking 25 = .ok (.iload_n 1, 1) := by decide +kernel
theorem dX4_lacking_26 : decode cX4_lacking 26 = .ok (.iconst 1, 1) := by decide +kernel
theorem dX4_lacking_27 : decode cX4_lacking 27 = .ok (.aload_n 0, 1) := by decide +kernel
theorem dX4_lacking_28 : decode cX4_lacking 28 = .ok (.getfield 44, 3) := by decide +kernel
theorem dX4_lacking_31 : decode cX4_lacking 31 = .ok (.iload_n 2, 1) := by decide +kernel
theorem dX4_lacking_32 : decode cX4_lacking 32 = .ok (.iaload, 1) := by decide +kernel
theorem dX4_lacking_33 : decode cX4_lacking 33 = .ok (.ishl, 1) := by decide +kernel
theorem dX4_lacking_34 : decode cX4_lacking 34 = .ok (.ior, 1) := by decide +kernel
theorem dX4_lacking_35 : decode cX4_lacking 35 = .ok (.istore_n 1, 1) := by decide +kernel
theorem dX4_lacking_36 : decode cX4_lacking 36 = .ok (.iinc 2 1, 3) := by decide +kernel
theorem dX4_lacking_39 : decode cX4_lacking 39 = .ok (.goto (-30), 3) := by decide +kernel
theorem dX4_lacking_42 : decode cX4_lacking 42 = .ok (.iconst 0, 1) := by decide +kernel
theorem dX4_lacking_43 : decode cX4_lacking 43 = .ok (.istore_n 2, 1) := by decide +kernel
theorem dX4_lacking_44 : decode cX4_lacking 44 = .ok (.iload_n 2, 1) := by decide +kernel
theorem dX4_lacking_45 : decode cX4_lacking 45 = .ok (.aload_n 0, 1) := by decide +kernel
theorem dX4_lacking_46 : decode cX4_lacking 46 = .ok (.getfield 80, 3) := by decide +kernel
theorem dX4_lacking_49 : decode cX4_lacking 49 = .ok (.if_icmp .ge 20, 3) := by decide +kernel
theorem dX4_lacking_52 : decode cX4_lacking 52 = .ok (.iload_n 1, 1) := by decide +kernel
theorem dX4_lacking_53 : decode cX4_lacking 53 = .ok (.aload_n 0, 1) := by decide +kernel
theorem dX4_lacking_54 : decode cX4_lacking 54 = .ok (.getfield 23, 3) := by decide +kernel
theorem dX4_lacking_57 : decode cX4_lacking 57 = .ok (.iload_n 2, 1) := by decide +kernel
theorem dX4_lacking_58 : decode cX4_lacking 58 = .ok (.iaload, 1) := by decide +kernel
theorem dX4_lacking_59 : decode cX4_lacking 59 = .ok (.iconst (-1), 1) := by decide +kernel
theorem dX4_lacking_60 : decode cX4_lacking 60 = .ok (.ixor, 1) := by decide +kernel
theorem dX4_lacking_61 : decode cX4_lacking 61 = .ok (.iand, 1) := by decide +kernel
theorem dX4_lacking_62 : decode cX4_lacking 62 = .ok (.istore_n 1, 1) := by decide +kernel
theorem dX4_lacking_63 : decode cX4_lacking 63 = .ok (.iinc 2 1, 3) := by decide +kernel
theorem dX4_lacking_66 : decode cX4_lacking 66 = .ok (.goto (-22), 3) := by decide +kernel
theorem dX4_lacking_69 : decode cX4_lacking 69 = .ok (.iload_n 1, 1) := by decide +kernel
theorem dX4_lacking_70 : decode cX4_lacking 70 = .ok (.ireturn, 1) := by decide +kernel
theorem dX4_success_0 : decode cX4_success 0 = .ok (.aload_n 0, 1) := by decide +kernel
theorem dX4_success_1 : decode cX4_success 1 = .ok (.iconst 0, 1) := by decide +kernel
theorem dX4_success_2 : decode cX4_success 2 = .ok (.putfield 77, 3) := by decide +kernel
theorem dX4_success_5 : decode cX4_success 5 = .ok (.iconst 0, 1) := by decide +kernel
theorem dX4_success_6 : decode cX4_success 6 = .ok (.istore_n 1, 1) := by decide +kernel
theorem dX4_success_7 : decode cX4_success 7 = .ok (.iconst 0, 1) := by decide +kernel
theorem dX4_success_8 : decode cX4_success 8 = .ok (.istore_n 2, 1) := by decide +kernel
theorem dX4_success_9 : decode cX4_success 9 = .ok (.iconst 0, 1) := by decide +kernel
theorem dX4_success_10 : decode cX4_success 10 = .ok (.istore_n 3, 1) := by decide +kernel
theorem dX4_success_11 : decode cX4_success 11 = .ok (.iload_n 3, 1) := by decide +kernel
theorem dX4_success_12 : decode cX4_success 12 = .ok (.aload_n 0, 1) := by decide +kernel
theorem dX4_success_13 : decode cX4_success 13 = .ok (.getfield 87, 3) := by decide +kernel
theorem dX4_success_16 : decode cX4_success 16 = .ok (.if_icmp .ge 42, 3) := by decide +kernel
theorem dX4_success_19 : decode cX4_success 19 = .ok (.aload_n 0, 1) := by decide +kernel
theorem dX4_success_20 : decode cX4_success 20 = .ok (.getfield 56, 3) := by decide +kernel
theorem dX4_success_23 : decode cX4_success 23 = .ok (.iload_n 3, 1) := by decide +kernel
theorem dX4_success_24 : decode cX4_success 24 = .ok (.iaload, 1) := by decide +kernel
theorem dX4_success_25 : decode cX4_success 25 = .ok (.iconst 3, 1) := by decide +kernel
theorem dX4_success_26 : decode cX4_success 26 = .ok (.if_icmp .eq 6, 3) := by decide +kernel
theorem dX4_success_29 : decode cX4_success 29 = .ok (.goto 23, 3) := by decide +kernel
theorem dX4_success_32 : decode cX4_success 32 = .ok (.iinc 1 1, 3) := by decide +kernel
theorem dX4_success_35 : decode cX4_success 35 = .ok (.iload_n 2, 1) := by decide +kernel
theorem dX4_success_36 : decode cX4_success 36 = .ok (.aload_n 0, 1) := by decide +kernel
theorem dX4_success_37 : decode cX4_success 37 = .ok (.iload_n 3, 1) := by decide +kernel
theorem dX4_success_38 : decode cX4_success 38 = .ok (.iconst 0, 1) := by decide +kernel
theorem dX4_success_39 : decode cX4_success 39 = .ok (.invokevirtual 165, 3) := by decide +kernel
theorem dX4_success_42 : decode cX4_success 42 = .ok (.ifCond .eq 7, 3) := by decide +kernel
theorem dX4_success_45 : decode cX4_success 45 = .ok (.iconst 0, 1) := by decide +kernel
theorem dX4_success_46 : decode cX4_success 46 = .ok (.goto 4, 3) := by decide +kernel
theorem dX4_success_49 : decode cX4_success 49 = .ok (.iconst 1, 1) := by decide +kernel
theorem dX4_success_50 : decode cX4_success 50 = .ok (.iadd, 1) := by decide +kernel
theorem dX4_success_51 : decode cX4_success 51 = .ok (.istore_n 2, 1) := by decide +kernel
theorem dX4_success_52 : decode cX4_success 52 = .ok (.iinc 3 1, 3) := by decide +kernel
theorem dX4_success_55 : decode cX4_success 55 = .ok (.goto (-44), 3) := by decide +kernel
theorem dX4_success_58 : decode cX4_success 58 = .ok (.iload_n 1, 1) := by decide +kernel
theorem dX4_success_59 : decode cX4_success 59 = .ok (.ifCond .ne 7, 3) := by decide +kernel
theorem dX4_success_62 : decode cX4_success 62 = .ok (.dconst 1, 1) := by decide +kernel
theorem dX4_success_63 : decode cX4_success 63 = .ok (.goto 8, 3) := by decide +kernel
theorem dX4_success_66 : decode cX4_success 66 = .ok (.iload_n 2, 1) := by decide +kernel
theorem dX4_success_67 : decode cX4_success 67 = .ok (.i2d, 1) := by decide +kernel
theorem dX4_success_68 : decode cX4_success 68 = .ok (.iload_n 1, 1) := by decide +kernel
theorem dX4_success_69 : decode cX4_success 69 = .ok (.i2d, 1) := by decide +kernel
theorem dX4_success_70 : decode cX4_success 70 = .ok (.ddiv, 1) := by decide +kernel
theorem dX4_success_71 : decode cX4_success 71 = .ok (.dreturn, 1) := by decide +kernel
theorem dX4_digest_0 : decode cX4_digest 0 = .ok (.aload_n 0, 1) := by decide +kernel
theorem dX4_digest_1 : decode cX4_digest 1 = .ok (.iconst 0, 1) := by decide +kernel
theorem dX4_digest_2 : decode cX4_digest 2 = .ok (.putfield 77, 3) := by decide +kernel
theorem dX4_digest_5 : decode cX4_digest 5 = .ok (.ldc2_w 169, 3) := by decide +kernel
theorem dX4_digest_8 : decode cX4_digest 8 = .ok (.aload_n 0, 1) := by decide +kernel
theorem dX4_digest_9 : decode cX4_digest 9 = .ok (.getfield 94, 3) := by decide +kernel
theorem dX4_digest_12 : decode cX4_digest 12 = .ok (.i2l, 1) := by decide +kernel
theorem dX4_digest_13 : decode cX4_digest 13 = .ok (.ladd, 1) := by decide +kernel
theorem dX4_digest_14 : decode cX4_digest 14 = .ok (.ldc2_w 171, 3) := by decide +kernel
theorem dX4_digest_17 : decode cX4_digest 17 = .ok (.lmul, 1) := by decide +kernel
theorem dX4_digest_18 : decode cX4_digest 18 = .ok (.aload_n 0, 1) := by decide +kernel
theorem dX4_digest_19 : decode cX4_digest 19 = .ok (.getfield 7, 3) := by decide +kernel
theorem dX4_digest_22 : decode cX4_digest 22 = .ok (.i2l, 1) := by decide +kernel
theorem dX4_digest_23 : decode cX4_digest 23 = .ok (.ladd, 1) := by decide +kernel
theorem dX4_digest_24 : decode cX4_digest 24 = .ok (.ldc2_w 171, 3) := by decide +kernel
theorem dX4_digest_27 : decode cX4_digest 27 = .ok (.lmul, 1) := by decide +kernel
theorem dX4_digest_28 : decode cX4_digest 28 = .ok (.aload_n 0, 1) := by decide +kernel
theorem dX4_digest_29 : decode cX4_digest 29 = .ok (.getfield 13, 3) := by decide +kernel
theorem dX4_digest_32 : decode cX4_digest 32 = .ok (.i2l, 1) := by decide +kernel
theorem dX4_digest_33 : decode cX4_digest 33 = .ok (.ladd, 1) := by decide +kernel
theorem dX4_digest_34 : decode cX4_digest 34 = .ok (.lstore_n 1, 1) := by decide +kernel
theorem dX4_digest_35 : decode cX4_digest 35 = .ok (.iconst 0, 1) := by decide +kernel
theorem dX4_digest_36 : decode cX4_digest 36 = .ok (.istore_n 3, 1) := by decide +kernel
theorem dX4_digest_37 : decode cX4_digest 37 = .ok (.iload_n 3, 1) := by decide +kernel
theorem dX4_digest_38 : decode cX4_digest 38 = .ok (.iconst 4, 1) := by decide +kernel
theorem dX4_digest_39 : decode cX4_digest 39 = .ok (.if_icmp .ge 35, 3) := by decide +kernel
theorem dX4_digest_42 : decode cX4_digest 42 = .ok (.lload_n 1, 1) := by decide +kernel
theorem dX4_digest_43 : decode cX4_digest 43 = .ok (.ldc2_w 171, 3) := by decide +kernel
theorem dX4_digest_46 : decode cX4_digest 46 = .ok (.lmul, 1) := by decide +kernel
theorem dX4_digest_47 : decode cX4_digest 47 = .ok (.aload_n 0, 1) := by decide +kernel
theorem dX4_digest_48 : decode cX4_digest 48 = .ok (.getfield 16, 3) := by decide +kernel
theorem dX4_digest_51 : decode cX4_digest 51 = .ok (.iload_n 3, 1) := by decide +kernel
theorem dX4_digest_52 : decode cX4_digest 52 = .ok (.iaload, 1) := by decide +kernel
theorem dX4_digest_53 : decode cX4_digest 53 = .ok (.i2l, 1) := by decide +kernel
theorem dX4_digest_54 : decode cX4_digest 54 = .ok (.ladd, 1) := by decide +kernel
theorem dX4_digest_55 : decode cX4_digest 55 = .ok (.ldc2_w 171, 3) := by decide +kernel
theorem dX4_digest_58 : decode cX4_digest 58 = .ok (.lmul, 1) := by decide +kernel
theorem dX4_digest_59 : decode cX4_digest 59 = .ok (.aload_n 0, 1) := by decide +kernel
theorem dX4_digest_60 : decode cX4_digest 60 = .ok (.getfield 20, 3) := by decide +kernel
theorem dX4_digest_63 : decode cX4_digest 63 = .ok (.iload_n 3, 1) := by decide +kernel
theorem dX4_digest_64 : decode cX4_digest 64 = .ok (.iaload, 1) := by decide +kernel
theorem dX4_digest_65 : decode cX4_digest 65 = .ok (.i2l, 1) := by decide +kernel
theorem dX4_digest_66 : decode cX4_digest 66 = .ok (.ladd, 1) := by decide +kernel
theorem dX4_digest_67 : decode cX4_digest 67 = .ok (.lstore_n 1, 1) := by decide +kernel
theorem dX4_digest_68 : decode cX4_digest 68 = .ok (.iinc 3 1, 3) := by decide +kernel
theorem dX4_digest_71 : decode cX4_digest 71 = .ok (.goto (-34), 3) := by decide +kernel
theorem dX4_digest_74 : decode cX4_digest 74 = .ok (.lload_n 1, 1) := by decide +kernel
theorem dX4_digest_75 : decode cX4_digest 75 = .ok (.ldc2_w 171, 3) := by decide +kernel
theorem dX4_digest_78 : decode cX4_digest 78 = .ok (.lmul, 1) := by decide +kernel
theorem dX4_digest_79 : decode cX4_digest 79 = .ok (.aload_n 0, 1) := by decide +kernel
theorem dX4_digest_80 : decode cX4_digest 80 = .ok (.getfield 80, 3) := by decide +kernel
theorem dX4_digest_83 : decode cX4_digest 83 = .ok (.i2l, 1) := by decide +kernel
theorem dX4_digest_84 : decode cX4_digest 84 = .ok (.ladd, 1) := by decide +kernel
theorem dX4_digest_85 : decode cX4_digest 85 = .ok (.lstore_n 1, 1) := by decide +kernel
theorem dX4_digest_86 : decode cX4_digest 86 = .ok (.iconst 0, 1) := by decide +kernel
theorem dX4_digest_87 : decode cX4_digest 87 = .ok (.istore_n 3, 1) := by decide +kernel
theorem dX4_digest_88 : decode cX4_digest 88 = .ok (.iload_n 3, 1) := by decide +kernel
theorem dX4_digest_89 : decode cX4_digest 89 = .ok (.aload_n 0, 1) := by decide +kernel
theorem dX4_digest_90 : decode cX4_digest 90 = .ok (.getfield 80, 3) := by decide +kernel
theorem dX4_digest_93 : decode cX4_digest 93 = .ok (.if_icmp .ge 53, 3) := by decide +kernel
theorem dX4_digest_96 : decode cX4_digest 96 = .ok (.lload_n 1, 1) := by decide +kernel
theorem dX4_digest_97 : decode cX4_digest 97 = .ok (.ldc2_w 171, 3) := by decide +kernel
theorem dX4_digest_100 : decode cX4_digest 100 = .ok (.lmul, 1) := by decide +kernel
theorem dX4_digest_101 : decode cX4_digest 101 = .ok (.aload_n 0, 1) := by decide +kernel
theorem dX4_digest_102 : decode cX4_digest 102 = .ok (.getfield 23, 3) := by decide +kernel
theorem dX4_digest_105 : decode cX4_digest 105 = .ok (.iload_n 3, 1) := by decide +kernel
theorem dX4_digest_106 : decode cX4_digest 106 = .ok (.iaload, 1) := by decide +kernel
theorem dX4_digest_107 : decode cX4_digest 107 = .ok (.i2l, 1) := by decide +kernel
theorem dX4_digest_108 : decode cX4_digest 108 = .ok (.ladd, 1) := by decide +kernel
theorem dX4_digest_109 : decode cX4_digest 109 = .ok (.lstore_n 1, 1) := by decide +kernel
theorem dX4_digest_110 : decode cX4_digest 110 = .ok (.iconst 0, 1) := by decide +kernel
theorem dX4_digest_111 : decode cX4_digest 111 = .ok (.istore 4, 2) := by decide +kernel
theorem dX4_digest_113 : decode cX4_digest 113 = .ok (.iload 4, 2) := by decide +kernel
theorem dX4_digest_115 : decode cX4_digest 115 = .ok (.iconst 4, 1) := by decide +kernel
theorem dX4_digest_116 : decode cX4_digest 116 = .ok (.if_icmp .ge 24, 3) := by decide +kernel
theorem dX4_digest_119 : decode cX4_digest 119 = .ok (.lload_n 1, 1) := by decide +kernel
theorem dX4_digest_120 : decode cX4_digest 120 = .ok (.ldc2_w 171, 3) := by decide +kernel
theorem dX4_digest_123 : decode cX4_digest 123 = .ok (.lmul, 1) := by decide +kernel
theorem dX4_digest_124 : decode cX4_digest 124 = .ok (.aload_n 0, 1) := by decide +kernel
theorem dX4_digest_125 : decode cX4_digest 125 = .ok (.iload_n 3, 1) := by decide +kernel
theorem dX4_digest_126 : decode cX4_digest 126 = .ok (.iload 4, 2) := by decide +kernel
theorem dX4_digest_128 : decode cX4_digest 128 = .ok (.invokevirtual 125, 3) := by decide +kernel
theorem dX4_digest_131 : decode cX4_digest 131 = .ok (.i2l, 1) := by decide +kernel
theorem dX4_digest_132 : decode cX4_digest 132 = .ok (.ladd, 1) := by decide +kernel
theorem dX4_digest_133 : decode cX4_digest 133 = .ok (.lstore_n 1, 1) := by decide +kernel
theorem dX4_digest_134 : decode cX4_digest 134 = .ok (.iinc 4 1, 3) := by decide +kernel
theorem dX4_digest_137 : decode cX4_digest 137 = .ok (.goto (-24), 3) := by decide +kernel
theorem dX4_digest_140 : decode cX4_digest 140 = .ok (.iinc 3 1, 3) := by decide +kernel
theorem dX4_digest_143 : decode cX4_digest 143 = .ok (.goto (-55), 3) := by decide +kernel
theorem dX4_digest_146 : decode cX4_digest 146 = .ok (.lload_n 1, 1) := by decide +kernel
theorem dX4_digest_147 : decode cX4_digest 147 = .ok (.ldc2_w 171, 3) := by decide +kernel
theorem dX4_digest_150 : decode cX4_digest 150 = .ok (.lmul, 1) := by decide +kernel
theorem dX4_digest_151 : decode cX4_digest 151 = .ok (.aload_n 0, 1) := by decide +kernel
theorem dX4_digest_152 : decode cX4_digest 152 = .ok (.getfield 87, 3) := by decide +kernel
theorem dX4_digest_155 : decode cX4_digest 155 = .ok (.i2l, 1) := by decide +kernel
theorem dX4_digest_156 : decode cX4_digest 156 = .ok (.ladd, 1) := by decide +kernel
theorem dX4_digest_157 : decode cX4_digest 157 = .ok (.lstore_n 1, 1) := by decide +kernel
theorem dX4_digest_158 : decode cX4_digest 158 = .ok (.iconst 0, 1) := by decide +kernel
theorem dX4_digest_159 : decode cX4_digest 159 = .ok (.istore_n 3, 1) := by decide +kernel
theorem dX4_digest_160 : decode cX4_digest 160 = .ok (.iload_n 3, 1) := by decide +kernel
theorem dX4_digest_161 : decode cX4_digest 161 = .ok (.aload_n 0, 1) := by decide +kernel
theorem dX4_digest_162 : decode cX4_digest 162 = .ok (.getfield 87, 3) := by decide +kernel
theorem dX4_digest_165 : decode cX4_digest 165 = .ok (.if_icmp .ge 78, 3) := by decide +kernel
theorem dX4_digest_168 : decode cX4_digest 168 = .ok (.lload_n 1, 1) := by decide +kernel
theorem dX4_digest_169 : decode cX4_digest 169 = .ok (.ldc2_w 171, 3) := by decide +kernel
theorem dX4_digest_172 : decode cX4_digest 172 = .ok (.lmul, 1) := by decide +kernel
theorem dX4_digest_173 : decode cX4_digest 173 = .ok (.aload_n 0, 1) := by decide +kernel
theorem dX4_digest_174 : decode cX4_digest 174 = .ok (.getfield 44, 3) := by decide +kernel
theorem dX4_digest_177 : decode cX4_digest 177 = .ok (.iload_n 3, 1) := by decide +kernel
theorem dX4_digest_178 : decode cX4_digest 178 = .ok (.iaload, 1) := by decide +kernel
theorem dX4_digest_179 : decode cX4_digest 179 = .ok (.i2l, 1) := by decide +kernel
theorem dX4_digest_180 : decode cX4_digest 180 = .ok (.ladd, 1) := by decide +kernel
theorem dX4_digest_181 : decode cX4_digest 181 = .ok (.lstore_n 1, 1) := by decide +kernel
theorem dX4_digest_182 : decode cX4_digest 182 = .ok (.iconst 0, 1) := by decide +kernel
theorem dX4_digest_183 : decode cX4_digest 183 = .ok (.istore 4, 2) := by decide +kernel
theorem dX4_digest_185 : decode cX4_digest 185 = .ok (.iload 4, 2) := by decide +kernel
theorem dX4_digest_187 : decode cX4_digest 187 = .ok (.bipush 8, 2) := by decide +kernel
theorem dX4_digest_189 : decode cX4_digest 189 = .ok (.if_icmp .ge 24, 3) := by decide +kernel
theorem dX4_digest_192 : decode cX4_digest 192 = .ok (.lload_n 1, 1) := by decide +kernel
theorem dX4_digest_193 : decode cX4_digest 193 = .ok (.ldc2_w 171, 3) := by decide +kernel
theorem dX4_digest_196 : decode cX4_digest 196 = .ok (.lmul, 1) := by decide +kernel
theorem dX4_digest_197 : decode cX4_digest 197 = .ok (.aload_n 0, 1) := by decide +kernel
theorem dX4_digest_198 : decode cX4_digest 198 = .ok (.iload_n 3, 1) := by decide +kernel
theorem dX4_digest_199 : decode cX4_digest 199 = .ok (.iload 4, 2) := by decide +kernel
theorem dX4_digest_201 : decode cX4_digest 201 = .ok (.invokevirtual 149, 3) := by decide +kernel
theorem dX4_digest_204 : decode cX4_digest 204 = .ok (.i2l, 1) := by decide +kernel
theorem dX4_digest_205 : decode cX4_digest 205 = .ok (.ladd, 1) := by decide +kernel
theorem dX4_digest_206 : decode cX4_digest 206 = .ok (.lstore_n 1, 1) := by decide +kernel
theorem dX4_digest_207 : decode cX4_digest 207 = .ok (.iinc 4 1, 3) := by decide +kernel
theorem dX4_digest_210 : decode cX4_digest 210 = .ok (.goto (-25), 3) := by decide +kernel
theorem dX4_digest_213 : decode cX4_digest 213 = .ok (.lload_n 1, 1) := by decide +kernel
theorem dX4_digest_214 : decode cX4_digest 214 = .ok (.ldc2_w 171, 3) := by decide +kernel
theorem dX4_digest_217 : decode cX4_digest 217 = .ok (.lmul, 1) := by decide +kernel
theorem dX4_digest_218 : decode cX4_digest 218 = .ok (.aload_n 0, 1) := by decide +kernel
theorem dX4_digest_219 : decode cX4_digest 219 = .ok (.iload_n 3, 1) := by decide +kernel
theorem dX4_digest_220 : decode cX4_digest 220 = .ok (.invokevirtual 155, 3) := by decide +kernel
theorem dX4_digest_223 : decode cX4_digest 223 = .ok (.i2l, 1) := by decide +kernel
theorem dX4_digest_224 : decode cX4_digest 224 = .ok (.ladd, 1) := by decide +kernel
theorem dX4_digest_225 : decode cX4_digest 225 = .ok (.ldc2_w 171, 3) := by decide +kernel
theorem dX4_digest_228 : decode cX4_digest 228 = .ok (.lmul, 1) := by decide +kernel
theorem dX4_digest_229 : decode cX4_digest 229 = .ok (.aload_n 0, 1) := by decide +kernel
theorem dX4_digest_230 : decode cX4_digest 230 = .ok (.iload_n 3, 1) := by decide +kernel
theorem dX4_digest_231 : decode cX4_digest 231 = .ok (.invokevirtual 143, 3) := by decide +kernel
theorem dX4_digest_234 : decode cX4_digest 234 = .ok (.i2l, 1) := by decide +kernel
theorem dX4_digest_235 : decode cX4_digest 235 = .ok (.ladd, 1) := by decide +kernel
theorem dX4_digest_236 : decode cX4_digest 236 = .ok (.lstore_n 1, 1) := by decide +kernel
theorem dX4_digest_237 : decode cX4_digest 237 = .ok (.iinc 3 1, 3) := by decide +kernel
theorem dX4_digest_240 : decode cX4_digest 240 = .ok (.goto (-80), 3) := by decide +kernel
theorem dX4_digest_243 : decode cX4_digest 243 = .ok (.lload_n 1, 1) := by decide +kernel
theorem dX4_digest_244 : decode cX4_digest 244 = .ok (.lreturn, 1) := by decide +kernel
