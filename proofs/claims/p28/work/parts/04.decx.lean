theorem dX0_init_0 : decode cX0_init 0 = .ok (.aload_n 0, 1) := by decide +kernel
theorem dX0_init_1 : decode cX0_init 1 = .ok (.invokespecial 3, 3) := by decide +kernel
theorem dX0_init_4 : decode cX0_init 4 = .ok (.aload_n 0, 1) := by decide +kernel
theorem dX0_init_5 : decode cX0_init 5 = .ok (.iload_n 1, 1) := by decide +kernel
theorem dX0_init_6 : decode cX0_init 6 = .ok (.putfield 9, 3) := by decide +kernel
theorem dX0_init_9 : decode cX0_init 9 = .ok (.aload_n 0, 1) := by decide +kernel
theorem dX0_init_10 : decode cX0_init 10 = .ok (.iload_n 2, 1) := by decide +kernel
theorem dX0_init_11 : decode cX0_init 11 = .ok (.putfield 15, 3) := by decide +kernel
theorem dX0_init_14 : decode cX0_init 14 = .ok (.aload_n 0, 1) := by decide +kernel
theorem dX0_init_15 : decode cX0_init 15 = .ok (.iload_n 3, 1) := by decide +kernel
theorem dX0_init_16 : decode cX0_init 16 = .ok (.putfield 18, 3) := by decide +kernel
theorem dX0_init_19 : decode cX0_init 19 = .ok (.aload_n 0, 1) := by decide +kernel
theorem dX0_init_20 : decode cX0_init 20 = .ok (.iload 4, 2) := by decide +kernel
theorem dX0_init_22 : decode cX0_init 22 = .ok (.putfield 21, 3) := by decide +kernel
theorem dX0_init_25 : decode cX0_init 25 = .ok (.aload_n 0, 1) := by decide +kernel
theorem dX0_init_26 : decode cX0_init 26 = .ok (.iload 5, 2) := by decide +kernel
theorem dX0_init_28 : decode cX0_init 28 = .ok (.putfield 24, 3) := by decide +kernel
theorem dX0_init_31 : decode cX0_init 31 = .ok (.return_, 1) := by decide +kernel
theorem dX0_hasSkill_0 : decode cX0_hasSkill 0 = .ok (.aload_n 0, 1) := by decide +kernel
theorem dX0_hasSkill_1 : decode cX0_hasSkill 1 = .ok (.getfield 15, 3) := by decide +kernel
theorem dX0_hasSkill_4 : decode cX0_hasSkill 4 = .ok (.iconst 1, 1) := by decide +kernel
theorem dX0_hasSkill_5 : decode cX0_hasSkill 5 = .ok (.iload_n 1, 1) := by decide +kernel
theorem dX0_hasSkill_6 : decode cX0_hasSkill 6 = .ok (.ishl, 1) := by decide +kernel
theorem dX0_hasSkill_7 : decode cX0_hasSkill 7 = .ok (.iand, 1) := by decide +kernel
theorem dX0_hasSkill_8 : decode cX0_hasSkill 8 = .ok (.ifCond .eq 7, 3) := by decide +kernel
theorem dX0_hasSkill_11 : decode cX0_hasSkill 11 = .ok (.iconst 1, 1) := by decide +kernel
theorem dX0_hasSkill_12 : decode cX0_hasSkill 12 = .ok (.goto 4, 3) := by decide +kernel
theorem dX0_hasSkill_15 : decode cX0_hasSkill 15 = .ok (.iconst 0, 1) := by decide +kernel
theorem dX0_hasSkill_16 : decode cX0_hasSkill 16 = .ok (.ireturn, 1) := by decide +kernel
theorem dX0_isThere_0 : decode cX0_isThere 0 = .ok (.iload_n 1, 1) := by decide +kernel
theorem dX0_isThere_1 : decode cX0_isThere 1 = .ok (.sipush 1440, 3) := by decide +kernel
theorem dX0_isThere_4 : decode cX0_isThere 4 = .ok (.irem, 1) := by decide +kernel
theorem dX0_isThere_5 : decode cX0_isThere 5 = .ok (.istore_n 2, 1) := by decide +kernel
theorem dX0_isThere_6 : decode cX0_isThere 6 = .ok (.aload_n 0, 1) := by decide +kernel
theorem dX0_isThere_7 : decode cX0_isThere 7 = .ok (.getfield 18, 3) := by decide +kernel
theorem dX0_isThere_10 : decode cX0_isThere 10 = .ok (.iconst 1, 1) := by decide +kernel
theorem dX0_isThere_11 : decode cX0_isThere 11 = .ok (.iload_n 1, 1) := by decide +kernel
theorem dX0_isThere_12 : decode cX0_isThere 12 = .ok (.invokestatic 27, 3) := by decide +kernel
theorem dX0_isThere_15 : decode cX0_isThere 15 = .ok (.ishl, 1) := by decide +kernel
theorem dX0_isThere_16 : decode cX0_isThere 16 = .ok (.iand, 1) := by decide +kernel
theorem dX0_isThere_17 : decode cX0_isThere 17 = .ok (.ifCond .eq 23, 3) := by decide +kernel
theorem dX0_isThere_20 : decode cX0_isThere 20 = .ok (.iload_n 2, 1) := by decide +kernel
theorem dX0_isThere_21 : decode cX0_isThere 21 = .ok (.aload_n 0, 1) := by decide +kernel
theorem dX0_isThere_22 : decode cX0_isThere 22 = .ok (.getfield 21, 3) := by decide +kernel
theorem dX0_isThere_25 : decode cX0_isThere 25 = .ok (.if_icmp .lt 15, 3) := by decide +kernel
theorem dX0_isThere_28 : decode cX0_isThere 28 = .ok (.iload_n 2, 1) := by decide +kernel
theorem dX0_isThere_29 : decode cX0_isThere 29 = .ok (.aload_n 0, 1) := by decide +kernel
theorem dX0_isThere_30 : decode cX0_isThere 30 = .ok (.getfield 24, 3) := by decide +kernel
theorem dX0_isThere_33 : decode cX0_isThere 33 = .ok (.if_icmp .ge 7, 3) := by decide +kernel
theorem dX0_isThere_36 : decode cX0_isThere 36 = .ok (.iconst 1, 1) := by decide +kernel
theorem dX0_isThere_37 : decode cX0_isThere 37 = .ok (.goto 4, 3) := by decide +kernel
theorem dX0_isThere_40 : decode cX0_isThere 40 = .ok (.iconst 0, 1) := by decide +kernel
theorem dX0_isThere_41 : decode cX0_isThere 41 = .ok (.ireturn, 1) := by decide +kernel
theorem dX1_init_0 : decode cX1_init 0 = .ok (.aload_n 0, 1) := by decide +kernel
theorem dX1_init_1 : decode cX1_init 1 = .ok (.invokespecial 3, 3) := by decide +kernel
theorem dX1_init_4 : decode cX1_init 4 = .ok (.aload_n 0, 1) := by decide +kernel
theorem dX1_init_5 : decode cX1_init 5 = .ok (.sipush 540, 3) := by decide +kernel
theorem dX1_init_8 : decode cX1_init 8 = .ok (.putfield 9, 3) := by decide +kernel
theorem dX1_init_11 : decode cX1_init 11 = .ok (.aload_n 0, 1) := by decide +kernel
theorem dX1_init_12 : decode cX1_init 12 = .ok (.sipush 1020, 3) := by decide +kernel
theorem dX1_init_15 : decode cX1_init 15 = .ok (.putfield 15, 3) := by decide +kernel
theorem dX1_init_18 : decode cX1_init 18 = .ok (.return_, 1) := by decide +kernel
theorem dX1_isService_0 : decode cX1_isService 0 = .ok (.iload_n 1, 1) := by decide +kernel
theorem dX1_isService_1 : decode cX1_isService 1 = .ok (.sipush 1440, 3) := by decide +kernel
theorem dX1_isService_4 : decode cX1_isService 4 = .ok (.irem, 1) := by decide +kernel
theorem dX1_isService_5 : decode cX1_isService 5 = .ok (.istore_n 2, 1) := by decide +kernel
theorem dX1_isService_6 : decode cX1_isService 6 = .ok (.iload_n 1, 1) := by decide +kernel
theorem dX1_isService_7 : decode cX1_isService 7 = .ok (.invokestatic 18, 3) := by decide +kernel
theorem dX1_isService_10 : decode cX1_isService 10 = .ok (.iconst 5, 1) := by decide +kernel
theorem dX1_isService_11 : decode cX1_isService 11 = .ok (.if_icmp .ge 23, 3) := by decide +kernel
theorem dX1_isService_14 : decode cX1_isService 14 = .ok (.iload_n 2, 1) := by decide +kernel
theorem dX1_isService_15 : decode cX1_isService 15 = .ok (.aload_n 0, 1) := by decide +kernel
theorem dX1_isService_16 : decode cX1_isService 16 = .ok (.getfield 9, 3) := by decide +kernel
theorem dX1_isService_19 : decode cX1_isService 19 = .ok (.if_icmp .lt 15, 3) := by decide +kernel
theorem dX1_isService_22 : decode cX1_isService 22 = .ok (.iload_n 2, 1) := by decide +kernel
theorem dX1_isService_23 : decode cX1_isService 23 = .ok (.aload_n 0, 1) := by decide +kernel
theorem dX1_isService_24 : decode cX1_isService 24 = .ok (.getfield 15, 3) := by decide +kernel
theorem dX1_isService_27 : decode cX1_isService 27 = .ok (.if_icmp .ge 7, 3) := by decide +kernel
theorem dX1_isService_30 : decode cX1_isService 30 = .ok (.iconst 1, 1) := by decide +kernel
theorem dX1_isService_31 : decode cX1_isService 31 = .ok (.goto 4, 3) := by decide +kernel
theorem dX1_isService_34 : decode cX1_isService 34 = .ok (.iconst 0, 1) := by decide +kernel
theorem dX1_isService_35 : decode cX1_isService 35 = .ok (.ireturn, 1) := by decide +kernel
theorem dX1_minutesBetween_0 : decode cX1_minutesBetween 0 = .ok (.iconst 0, 1) := by decide +kernel
theorem dX1_minutesBetween_1 : decode cX1_minutesBetween 1 = .ok (.istore_n 3, 1) := by decide +kernel
theorem dX1_minutesBetween_2 : decode cX1_minutesBetween 2 = .ok (.iload_n 1, 1) := by decide +kernel
theorem dX1_minutesBetween_3 : decode cX1_minutesBetween 3 = .ok (.iload_n 1, 1) := by decide +kernel
theorem dX1_minutesBetween_4 : decode cX1_minutesBetween 4 = .ok (.sipush 1440, 3) := by decide +kernel
theorem dX1_minutesBetween_7 : decode cX1_minutesBetween 7 = .ok (.irem, 1) := by decide +kernel
theorem dX1_minutesBetween_8 : decode cX1_minutesBetween 8 = .ok (.isub, 1) := by decide +kernel
theorem dX1_minutesBetween_9 : decode cX1_minutesBetween 9 = .ok (.istore 4, 2) := by decide +kernel
theorem dX1_minutesBetween_11 : decode cX1_minutesBetween 11 = .ok (.iload 4, 2) := by decide +kernel
theorem dX1_minutesBetween_13 : decode cX1_minutesBetween 13 = .ok (.iload_n 2, 1) := by decide +kernel
theorem dX1_minutesBetween_14 : decode cX1_minutesBetween 14 = .ok (.if_icmp .ge 23, 3) := by decide +kernel
theorem dX1_minutesBetween_17 : decode cX1_minutesBetween 17 = .ok (.iload_n 3, 1) := by decide +kernel
theorem dX1_minutesBetween_18 : decode cX1_minutesBetween 18 = .ok (.aload_n 0, 1) := by decide +kernel
theorem dX1_minutesBetween_19 : decode cX1_minutesBetween 19 = .ok (.iload 4, 2) := by decide +kernel
theorem dX1_minutesBetween_21 : decode cX1_minutesBetween 21 = .ok (.iload_n 1, 1) := by decide +kernel
theorem dX1_minutesBetween_22 : decode cX1_minutesBetween 22 = .ok (.iload_n 2, 1) := by decide +kernel
theorem dX1_minutesBetween_23 : decode cX1_minutesBetween 23 = .ok (.invokevirtual 22, 3) := by decide +kernel
theorem dX1_minutesBetween_26 : decode cX1_minutesBetween 26 = .ok (.iadd, 1) := by decide +kernel
theorem dX1_minutesBetween_27 : decode cX1_minutesBetween 27 = .ok (.istore_n 3, 1) := by decide +kernel
theorem dX1_minutesBetween_28 : decode cX1_minutesBetween 28 = .ok (.iinc 4 1440, 6) := by decide +kernel
theorem dX1_minutesBetween_34 : decode cX1_minutesBetween 34 = .ok (.goto (-23), 3) := by decide +kernel
theorem dX1_minutesBetween_37 : decode cX1_minutesBetween 37 = .ok (.iload_n 3, 1) := by decide +kernel
theorem dX1_minutesBetween_38 : decode cX1_minutesBetween 38 = .ok (.ireturn, 1) := by decide +kernel
theorem dX1_minutesOfDay_0 : decode cX1_minutesOfDay 0 = .ok (.iload_n 1, 1) := by decide +kernel
theorem dX1_minutesOfDay_1 : decode cX1_minutesOfDay 1 = .ok (.invokestatic 18, 3) := by decide +kernel
theorem dX1_minutesOfDay_4 : decode cX1_minutesOfDay 4 = .ok (.iconst 5, 1) := by decide +kernel
theorem dX1_minutesOfDay_5 : decode cX1_minutesOfDay 5 = .ok (.if_icmp .lt 5, 3) := by decide +kernel
theorem dX1_minutesOfDay_8 : decode cX1_minutesOfDay 8 = .ok (.iconst 0, 1) := by decide +kernel
theorem dX1_minutesOfDay_9 : decode cX1_minutesOfDay 9 = .ok (.ireturn, 1) := by decide +kernel
theorem dX1_minutesOfDay_10 : decode cX1_minutesOfDay 10 = .ok (.iload_n 2, 1) := by decide +kernel
theorem dX1_minutesOfDay_11 : decode cX1_minutesOfDay 11 = .ok (.iload_n 1, 1) := by decide +kernel
theorem dX1_minutesOfDay_12 : decode cX1_minutesOfDay 12 = .ok (.aload_n 0, 1) := by decide +kernel
theorem dX1_minutesOfDay_13 : decode cX1_minutesOfDay 13 = .ok (.getfield 9, 3) := by decide +kernel
theorem dX1_minutesOfDay_16 : decode cX1_minutesOfDay 16 = .ok (.iadd, 1) := by decide +kernel
theorem dX1_minutesOfDay_17 : decode cX1_minutesOfDay 17 = .ok (.invokestatic 28, 3) := by decide +kernel
theorem dX1_minutesOfDay_20 : decode cX1_minutesOfDay 20 = .ok (.istore 4, 2) := by decide +kernel
theorem dX1_minutesOfDay_22 : decode cX1_minutesOfDay 22 = .ok (.iload_n 3, 1) := by decide +kernel
theorem dX1_minutesOfDay_23 : decode cX1_minutesOfDay 23 = .ok (.iload_n 1, 1) := by decide +kernel
theorem dX1_minutesOfDay_24 : decode cX1_minutesOfDay 24 = .ok (.aload_n 0, 1) := by decide +kernel
theorem dX1_minutesOfDay_25 : decode cX1_minutesOfDay 25 = .ok (.getfield 15, 3) := by decide +kernel
theorem dX1_minutesOfDay_28 : decode cX1_minutesOfDay 28 = .ok (.iadd, 1) := by decide +kernel
theorem dX1_minutesOfDay_29 : decode cX1_minutesOfDay 29 = .ok (.invokestatic 34, 3) := by decide +kernel
theorem dX1_minutesOfDay_32 : decode cX1_minutesOfDay 32 = .ok (.istore 5, 2) := by decide +kernel
theorem dX1_minutesOfDay_34 : decode cX1_minutesOfDay 34 = .ok (.iconst 0, 1) := by decide +kernel
theorem dX1_minutesOfDay_35 : decode cX1_minutesOfDay 35 = .ok (.iload 5, 2) := by decide +kernel
theorem dX1_minutesOfDay_37 : decode cX1_minutesOfDay 37 = .ok (.iload 4, 2) := by decide +kernel
theorem dX1_minutesOfDay_39 : decode cX1_minutesOfDay 39 = .ok (.isub, 1) := by decide +kernel
theorem dX1_minutesOfDay_40 : decode cX1_minutesOfDay 40 = .ok (.invokestatic 28, 3) := by decide +kernel
theorem dX1_minutesOfDay_43 : decode cX1_minutesOfDay 43 = .ok (.ireturn, 1) := by decide +kernel
theorem dX2_init_0 : decode cX2_init 0 = .ok (.aload_n 0, 1) := by decide +kernel
theorem dX2_init_1 : decode cX2_init 1 = .ok (.invokespecial 3, 3) := by decide +kernel
theorem dX2_init_4 : decode cX2_init 4 = .ok (.aload_n 0, 1) := by decide +kernel
theorem dX2_init_5 : decode cX2_init 5 = .ok (.iload_n 1, 1) := by decide +kernel
theorem dX2_init_6 : decode cX2_init 6 = .ok (.putfield 9, 3) := by decide +kernel
theorem dX2_init_9 : decode cX2_init 9 = .ok (.aload_n 0, 1) := by decide +kernel
theorem dX2_init_10 : decode cX2_init 10 = .ok (.iload_n 2, 1) := by decide +kernel
theorem dX2_init_11 : decode cX2_init 11 = .ok (.putfield 15, 3) := by decide +kernel
theorem dX2_init_14 : decode cX2_init 14 = .ok (.aload_n 0, 1) := by decide +kernel
theorem dX2_init_15 : decode cX2_init 15 = .ok (.iload_n 3, 1) := by decide +kernel
theorem dX2_init_16 : decode cX2_init 16 = .ok (.putfield 18, 3) := by decide +kernel
theorem dX2_init_19 : decode cX2_init 19 = .ok (.aload_n 0, 1) := by decide +kernel
theorem dX2_init_20 : decode cX2_init 20 = .ok (.iload 4, 2) := by decide +kernel
theorem dX2_init_22 : decode cX2_init 22 = .ok (.putfield 21, 3) := by decide +kernel
theorem dX2_init_25 : decode cX2_init 25 = .ok (.aload_n 0, 1) := by decide +kernel
theorem dX2_init_26 : decode cX2_init 26 = .ok (.iconst 0, 1) := by decide +kernel
theorem dX2_init_27 : decode cX2_init 27 = .ok (.putfield 24, 3) := by decide +kernel
theorem dX2_init_30 : decode cX2_init 30 = .ok (.aload_n 0, 1) := by decide +kernel
theorem dX2_init_31 : decode cX2_init 31 = .ok (.iconst (-1), 1) := by decide +kernel
theorem dX2_init_32 : decode cX2_init 32 = .ok (.putfield 27, 3) := by decide +kernel
theorem dX2_init_35 : decode cX2_init 35 = .ok (.aload_n 0, 1) := by decide +kernel
theorem dX2_init_36 : decode cX2_init 36 = .ok (.iconst 1, 1) := by decide +kernel
theorem dX2_init_37 : decode cX2_init 37 = .ok (.iload 5, 2) := by decide +kernel
theorem dX2_init_39 : decode cX2_init 39 = .ok (.ishl, 1) := by decide +kernel
theorem dX2_init_40 : decode cX2_init 40 = .ok (.putfield 30, 3) := by decide +kernel
theorem dX2_init_43 : decode cX2_init 43 = .ok (.return_, 1) := by decide +kernel
theorem dX2_isOpen_0 : decode cX2_isOpen 0 = .ok (.aload_n 0, 1) := by decide +kernel
theorem dX2_isOpen_1 : decode cX2_isOpen 1 = .ok (.getfield 24, 3) := by decide +kernel
theorem dX2_isOpen_4 : decode cX2_isOpen 4 = .ok (.ifCond .eq 19, 3) := by decide +kernel
theorem dX2_isOpen_7 : decode cX2_isOpen 7 = .ok (.aload_n 0, 1) := by decide +kernel
theorem dX2_isOpen_8 : decode cX2_isOpen 8 = .ok (.getfield 24, 3) := by decide +kernel
theorem dX2_isOpen_11 : decode cX2_isOpen 11 = .ok (.iconst 1, 1) := by decide +kernel
theorem dX2_isOpen_12 : decode cX2_isOpen 12 = .ok (.if_icmp .eq 11, 3) := by decide +kernel
theorem dX2_isOpen_15 : decode cX2_isOpen 15 = .ok (.aload_n 0, 1) := by decide +kernel
theorem dX2_isOpen_16 : decode cX2_isOpen 16 = .ok (.getfield 24, 3) := by decide +kernel
theorem dX2_isOpen_19 : decode cX2_isOpen 19 = .ok (.iconst 2, 1) := by decide +kernel
theorem dX2_isOpen_20 : decode cX2_isOpen 20 = .ok (.if_icmp .ne 7, 3) := by decide +kernel
theorem dX2_isOpen_23 : decode cX2_isOpen 23 = .ok (.iconst 1, 1) := by decide +kernel
theorem dX2_isOpen_24 : decode cX2_isOpen 24 = .ok (.goto 4, 3) := by decide +kernel
theorem dX2_isOpen_27 : decode cX2_isOpen 27 = .ok (.iconst 0, 1) := by decide +kernel
theorem dX2_isOpen_28 : decode cX2_isOpen 28 = .ok (.ireturn, 1) := by decide +kernel
theorem dX3_init_0 : decode cX3_init 0 = .ok (.aload_n 0, 1) := by decide +kernel
theorem dX3_init_1 : decode cX3_init 1 = .ok (.invokespecial 1, 3) := by decide +kernel
theorem dX3_init_4 : decode cX3_init 4 = .ok (.aload_n 0, 1) := by decide +kernel
theorem dX3_init_5 : decode cX3_init 5 = .ok (.new 7, 3) := by decide +kernel
theorem dX3_init_8 : decode cX3_init 8 = .ok (.dup, 1) := by decide +kernel
theorem dX3_init_9 : decode cX3_init 9 = .ok (.invokespecial 9, 3) := by decide +kernel
theorem dX3_init_12 : decode cX3_init 12 = .ok (.putfield 10, 3) := by decide +kernel
theorem dX3_init_15 : decode cX3_init 15 = .ok (.aload_n 0, 1) := by decide +kernel
theorem dX3_init_16 : decode cX3_init 16 = .ok (.iconst 4, 1) := by decide +kernel
theorem dX3_init_17 : decode cX3_init 17 = .ok (.newarray .int, 2) := by decide +kernel
theorem dX3_init_19 : decode cX3_init 19 = .ok (.dup, 1) := by decide +kernel
theorem dX3_init_20 : decode cX3_init 20 = .ok (.iconst 0, 1) := by decide +kernel
theorem dX3_init_21 : decode cX3_init 21 = .ok (.bipush 60, 2) := by decide +kernel
theorem dX3_init_23 : decode cX3_init 23 = .ok (.iastore, 1) := by decide +kernel
theorem dX3_init_24 : decode cX3_init 24 = .ok (.dup, 1) := by decide +kernel
theorem dX3_init_25 : decode cX3_init 25 = .ok (.iconst 1, 1) := by decide +kernel
theorem dX3_init_26 : decode cX3_init 26 = .ok (.bipush 120, 2) := by decide +kernel
theorem dX3_init_28 : decode cX3_init 28 = .ok (.iastore, 1) := by decide +kernel
theorem dX3_init_29 : decode cX3_init 29 = .ok (.dup, 1) := by decide +kernel
theorem dX3_init_30 : decode cX3_init 30 = .ok (.iconst 2, 1) := by decide +kernel
theorem dX3_init_31 : decode cX3_init 31 = .ok (.sipush 240, 3) := by decide +kernel
theorem dX3_init_34 : decode cX3_init 34 = .ok (.iastore, 1) := by decide +kernel
theorem dX3_init_35 : decode cX3_init 35 = .ok (.dup, 1) := by decide +kernel
theorem dX3_init_36 : decode cX3_init 36 = .ok (.iconst 3, 1) := by decide +kernel
theorem dX3_init_37 : decode cX3_init 37 = .ok (.sipush 480, 3) := by decide +kernel
theorem dX3_init_40 : decode cX3_init 40 = .ok (.iastore, 1) := by decide +kernel
theorem dX3_init_41 : decode cX3_init 41 = .ok (.putfield 16, 3) := by decide +kernel
theorem dX3_init_44 : decode cX3_init 44 = .ok (.aload_n 0, 1) := by decide +kernel
theorem dX3_init_45 : decode cX3_init 45 = .ok (.iconst 4, 1) := by decide +kernel
theorem dX3_init_46 : decode cX3_init 46 = .ok (.newarray .int, 2) := by decide +kernel
theorem dX3_init_48 : decode cX3_init 48 = .ok (.dup, 1) := by decide +kernel
theorem dX3_init_49 : decode cX3_init 49 = .ok (.iconst 0, 1) := by decide +kernel
theorem dX3_init_50 : decode cX3_init 50 = .ok (.sipush 240, 3) := by decide +kernel
theorem dX3_init_53 : decode cX3_init 53 = .ok (.iastore, 1) := by decide +kernel
theorem dX3_init_54 : decode cX3_init 54 = .ok (.dup, 1) := by decide +kernel
theorem dX3_init_55 : decode cX3_init 55 = .ok (.iconst 1, 1) := by decide +kernel
theorem dX3_init_56 : decode cX3_init 56 = .ok (.sipush 480, 3) := by decide +kernel
theorem dX3_init_59 : decode cX3_init 59 = .ok (.iastore, 1) := by decide +kernel
theorem dX3_init_60 : decode cX3_init 60 = .ok (.dup, 1) := by decide +kernel
theorem dX3_init_61 : decode cX3_init 61 = .ok (.iconst 2, 1) := by decide +kernel
theorem dX3_init_62 : decode cX3_init 62 = .ok (.sipush 960, 3) := by decide +kernel
theorem dX3_init_65 : decode cX3_init 65 = .ok (.iastore, 1) := by decide +kernel
theorem dX3_init_66 : decode cX3_init 66 = .ok (.dup, 1) := by decide +kernel
theorem dX3_init_67 : decode cX3_init 67 = .ok (.iconst 3, 1) := by decide +kernel
theorem dX3_init_68 : decode cX3_init 68 = .ok (.sipush 1920, 3) := by decide +kernel
theorem dX3_init_71 : decode cX3_init 71 = .ok (.iastore, 1) := by decide +kernel
theorem dX3_init_72 : decode cX3_init 72 = .ok (.putfield 20, 3) := by decide +kernel
theorem dX3_init_75 : decode cX3_init 75 = .ok (.aload_n 0, 1) := by decide +kernel
theorem dX3_init_76 : decode cX3_init 76 = .ok (.new 23, 3) := by decide +kernel
theorem dX3_init_79 : decode cX3_init 79 = .ok (.dup, 1) := by decide +kernel
theorem dX3_init_80 : decode cX3_init 80 = .ok (.invokespecial 25, 3) := by decide +kernel
theorem dX3_init_83 : decode cX3_init 83 = .ok (.putfield 26, 3) := by decide +kernel
theorem dX3_init_86 : decode cX3_init 86 = .ok (.aload_n 0, 1) := by decide +kernel
theorem dX3_init_87 : decode cX3_init 87 = .ok (.new 23, 3) := by decide +kernel
theorem dX3_init_90 : decode cX3_init 90 = .ok (.dup, 1) := by decide +kernel
theorem dX3_init_91 : decode cX3_init 91 = .ok (.invokespecial 25, 3) := by decide +kernel
theorem dX3_init_94 : decode cX3_init 94 = .ok (.putfield 30, 3) := by decide +kernel
theorem dX3_init_97 : decode cX3_init 97 = .ok (.aload_n 0, 1) := by decide +kernel
theorem dX3_init_98 : decode cX3_init 98 = .ok (.iconst 0, 1) := by decide +kernel
theorem dX3_init_99 : decode cX3_init 99 = .ok (.putfield 33, 3) := by decide +kernel
theorem dX3_init_102 : decode cX3_init 102 = .ok (.return_, 1) := by decide +kernel
theorem dX3_setHours_0 : decode cX3_setHours 0 = .ok (.iload_n 1, 1) := by decide +kernel
theorem dX3_setHours_1 : decode cX3_setHours 1 = .ok (.iload_n 2, 1) := by decide +kernel
theorem dX3_setHours_2 : decode cX3_setHours 2 = .ok (.invokestatic 37, 3) := by decide +kernel
theorem dX3_setHours_5 : decode cX3_setHours 5 = .ok (.ifCond .ne 13, 3) := by decide +kernel
theorem dX3_setHours_8 : decode cX3_setHours 8 = .ok (.new 41, 3) := by decide +kernel
theorem dX3_setHours_11 : decode cX3_setHours 11 = .ok (.dup, 1) := by decide +kernel
theorem dX3_setHours_12 : decode cX3_setHours 12 = .ok (.ldc 43, 2) := by decide +kernel
theorem dX3_setHours_14 : decode cX3_setHours 14 = .ok (.invokespecial 45, 3) := by decide +kernel
theorem dX3_setHours_17 : decode cX3_setHours 17 = .ok (.athrow, 1) := by decide +kernel
theorem dX3_setHours_18 : decode cX3_setHours 18 = .ok (.iload_n 1, 1) := by decide +kernel
theorem dX3_setHours_19 : decode cX3_setHours 19 = .ok (.aload_n 0, 1) := by decide +kernel
theorem dX3_setHours_20 : decode cX3_setHours 20 = .ok (.getfield 10, 3) := by decide +kernel
theorem dX3_setHours_23 : decode cX3_setHours 23 = .ok (.getfield 48, 3) := by decide +kernel
theorem dX3_setHours_26 : decode cX3_setHours 26 = .ok (.if_icmp .ne 14, 3) := by decide +kernel
theorem dX3_setHours_29 : decode cX3_setHours 29 = .ok (.iload_n 2, 1) := by decide +kernel
theorem dX3_setHours_30 : decode cX3_setHours 30 = .ok (.aload_n 0, 1) := by decide +kernel
theorem dX3_setHours_31 : decode cX3_setHours 31 = .ok (.getfield 10, 3) := by decide +kernel
theorem dX3_setHours_34 : decode cX3_setHours 34 = .ok (.getfield 51, 3) := by decide +kernel
theorem dX3_setHours_37 : decode cX3_setHours 37 = .ok (.if_icmp .eq 7, 3) := by decide +kernel
theorem dX3_setHours_40 : decode cX3_setHours 40 = .ok (.iconst 1, 1) := by decide +kernel
theorem dX3_setHours_41 : decode cX3_setHours 41 = .ok (.goto 4, 3) := by decide +kernel
theorem dX3_setHours_44 : decode cX3_setHours 44 = .ok (.iconst 0, 1) := by decide +kernel
theorem dX3_setHours_45 : decode cX3_setHours 45 = .ok (.istore_n 3, 1) := by decide +kernel
theorem dX3_setHours_46 : decode cX3_setHours 46 = .ok (.aload_n 0, 1) := by decide +kernel
theorem dX3_setHours_47 : decode cX3_setHours 47 = .ok (.getfield 10, 3) := by decide +kernel
theorem dX3_setHours_50 : decode cX3_setHours 50 = .ok (.iload_n 1, 1) := by decide +kernel
theorem dX3_setHours_51 : decode cX3_setHours 51 = .ok (.putfield 48, 3) := by decide +kernel
theorem dX3_setHours_54 : decode cX3_setHours 54 = .ok (.aload_n 0, 1) := by decide +kernel
theorem dX3_setHours_55 : decode cX3_setHours 55 = .ok (.getfield 10, 3) := by decide +kernel
theorem dX3_setHours_58 : decode cX3_setHours 58 = .ok (.iload_n 2, 1) := by decide +kernel
theorem dX3_setHours_59 : decode cX3_setHours 59 = .ok (.putfield 51, 3) := by decide +kernel
theorem dX3_setHours_62 : decode cX3_setHours 62 = .ok (.iload_n 3, 1) := by decide +kernel
theorem dX3_setHours_63 : decode cX3_setHours 63 = .ok (.ireturn, 1) := by decide +kernel
theorem dX3_setTargets_0 : decode cX3_setTargets 0 = .ok (.iload_n 1, 1) := by decide +kernel
theorem dX3_setTargets_1 : decode cX3_setTargets 1 = .ok (.invokestatic 54, 3) := by decide +kernel
theorem dX3_setTargets_4 : decode cX3_setTargets 4 = .ok (.ifCond .ne 13, 3) := by decide +kernel
theorem dX3_setTargets_7 : decode cX3_setTargets 7 = .ok (.new 58, 3) := by decide +kernel
theorem dX3_setTargets_10 : decode cX3_setTargets 10 = .ok (.dup, 1) := by decide +kernel
theorem dX3_setTargets_11 : decode cX3_setTargets 11 = .ok (.ldc 60, 2) := by decide +kernel
theorem dX3_setTargets_13 : decode cX3_setTargets 13 = .ok (.invokespecial 62, 3) := by decide +kernel
theorem dX3_setTargets_16 : decode cX3_setTargets 16 = .ok (.athrow, 1) := by decide +kernel
theorem dX3_setTargets_17 : decode cX3_setTargets 17 = .ok (.iload_n 2, 1) := by decide +kernel
theorem dX3_setTargets_18 : decode cX3_setTargets 18 = .ok (.iconst 1, 1) := by decide +kernel
theorem dX3_setTargets_19 : decode cX3_setTargets 19 = .ok (.if_icmp .lt 22, 3) := by decide +kernel
theorem dX3_setTargets_22 : decode cX3_setTargets 22 = .ok (.iload_n 2, 1) := by decide +kernel
theorem dX3_setTargets_23 : decode cX3_setTargets 23 = .ok (.sipush 9999, 3) := by decide +kernel
theorem dX3_setTargets_26 : decode cX3_setTargets 26 = .ok (.if_icmp .gt 15, 3) := by decide +kernel
theorem dX3_setTargets_29 : decode cX3_setTargets 29 = .ok (.iload_n 3, 1) := by decide +kernel
theorem dX3_setTargets_30 : decode cX3_setTargets 30 = .ok (.iload_n 2, 1) := by decide +kernel
theorem dX3_setTargets_31 : decode cX3_setTargets 31 = .ok (.if_icmp .lt 10, 3) := by decide +kernel
theorem dX3_setTargets_34 : decode cX3_setTargets 34 = .ok (.iload_n 3, 1) := by decide +kernel
theorem dX3_setTargets_35 : decode cX3_setTargets 35 = .ok (.sipush 9999, 3) := by decide +kernel
theorem dX3_setTargets_38 : decode cX3_setTargets 38 = .ok (.if_icmp .le 13, 3) := by decide +kernel
theorem dX3_setTargets_41 : decode cX3_setTargets 41 = .ok (.new 41, 3) := by decide +kernel
theorem dX3_setTargets_44 : decode cX3_setTargets 44 = .ok (.dup, 1) := by decide +kernel
theorem dX3_setTargets_45 : decode cX3_setTargets 45 = .ok (.ldc 63, 2) := by decide +kernel
theorem dX3_setTargets_47 : decode cX3_setTargets 47 = .ok (.invokespecial 45, 3) := by decide +kernel
theorem dX3_setTargets_50 : decode cX3_setTargets 50 = .ok (.athrow, 1) := by decide +kernel
theorem dX3_setTargets_51 : decode cX3_setTargets 51 = .ok (.aload_n 0, 1) := by decide +kernel
theorem dX3_setTargets_52 : decode cX3_setTargets 52 = .ok (.getfield 20, 3) := by decide +kernel
theorem dX3_setTargets_55 : decode cX3_setTargets 55 = .ok (.iload_n 1, 1) := by decide +kernel
theorem dX3_setTargets_56 : decode cX3_setTargets 56 = .ok (.iaload, 1) := by decide +kernel
theorem dX3_setTargets_57 : decode cX3_setTargets 57 = .ok (.istore 4, 2) := by decide +kernel
theorem dX3_setTargets_59 : decode cX3_setTargets 59 = .ok (.aload_n 0, 1) := by decide +kernel
theorem dX3_setTargets_60 : decode cX3_setTargets 60 = .ok (.getfield 16, 3) := by decide +kernel
theorem dX3_setTargets_63 : decode cX3_setTargets 63 = .ok (.iload_n 1, 1) := by decide +kernel
theorem dX3_setTargets_64 : decode cX3_setTargets 64 = .ok (.iload_n 2, 1) := by decide +kernel
theorem dX3_setTargets_65 : decode cX3_setTargets 65 = .ok (.iastore, 1) := by decide +kernel
theorem dX3_setTargets_66 : decode cX3_setTargets 66 = .ok (.aload_n 0, 1) := by decide +kernel
theorem dX3_setTargets_67 : decode cX3_setTargets 67 = .ok (.getfield 20, 3) := by decide +kernel
theorem dX3_setTargets_70 : decode cX3_setTargets 70 = .ok (.iload_n 1, 1) := by decide +kernel
theorem dX3_setTargets_71 : decode cX3_setTargets 71 = .ok (.iload_n 3, 1) := by decide +kernel
theorem dX3_setTargets_72 : decode cX3_setTargets 72 = .ok (.iastore, 1) := by decide +kernel
theorem dX3_setTargets_73 : decode cX3_setTargets 73 = .ok (.iload 4, 2) := by decide +kernel
theorem dX3_setTargets_75 : decode cX3_setTargets 75 = .ok (.ireturn, 1) := by decide +kernel
theorem dX3_now_0 : decode cX3_now 0 = .ok (.aload_n 0, 1) := by decide +kernel
theorem dX3_now_1 : decode cX3_now 1 = .ok (.getfield 33, 3) := by decide +kernel
theorem dX3_now_4 : decode cX3_now 4 = .ok (.ireturn, 1) := by decide +kernel
theorem dX3_service_0 : decode cX3_service 0 = .ok (.iload_n 1, 1) := by decide +kernel
theorem dX3_service_1 : decode cX3_service 1 = .ok (.ifCond .lt 14, 3) := by decide +kernel
theorem dX3_service_4 : decode cX3_service 4 = .ok (.iload_n 2, 1) := by decide +kernel
theorem dX3_service_5 : decode cX3_service 5 = .ok (.iload_n 1, 1) := by decide +kernel
theorem dX3_service_6 : decode cX3_service 6 = .ok (.if_icmp .lt 9, 3) := by decide +kernel
theorem dX3_service_9 : decode cX3_service 9 = .ok (.iload_n 2, 1) := by decide +kernel
theorem dX3_service_10 : decode cX3_service 10 = .ok (.ldc 65, 2) := by decide +kernel
theorem dX3_service_12 : decode cX3_service 12 = .ok (.if_icmp .le 13, 3) := by decide +kernel
theorem dX3_service_15 : decode cX3_service 15 = .ok (.new 41, 3) := by decide +kernel
theorem dX3_service_18 : decode cX3_service 18 = .ok (.dup, 1) := by decide +kernel
theorem dX3_service_19 : decode cX3_service 19 = .ok (.ldc 66, 2) := by decide +kernel
theorem dX3_service_21 : decode cX3_service 21 = .ok (.invokespecial 45, 3) := by decide +kernel
theorem dX3_service_24 : decode cX3_service 24 = .ok (.athrow, 1) := by decide +kernel
theorem dX3_service_25 : decode cX3_service 25 = .ok (.aload_n 0, 1) := by decide +kernel
theorem dX3_service_26 : decode cX3_service 26 = .ok (.getfield 10, 3) := by decide +kernel
theorem dX3_service_29 : decode cX3_service 29 = .ok (.iload_n 1, 1) := by decide +kernel
theorem dX3_service_30 : decode cX3_service 30 = .ok (.iload_n 2, 1) := by decide +kernel
theorem dX3_service_31 : decode cX3_service 31 = .ok (.invokevirtual 68, 3) := by decide +kernel
theorem dX3_service_34 : decode cX3_service 34 = .ok (.ireturn, 1) := by decide +kernel
theorem dX3_addAgent_0 : decode cX3_addAgent 0 = .ok (.iload_n 1, 1) := by decide +kernel
theorem dX3_addAgent_1 : decode cX3_addAgent 1 = .ok (.invokestatic 72, 3) := by decide +kernel
theorem dX3_addAgent_4 : decode cX3_addAgent 4 = .ok (.ifCond .eq 23, 3) := by decide +kernel
theorem dX3_addAgent_7 : decode cX3_addAgent 7 = .ok (.iload_n 2, 1) := by decide +kernel
theorem dX3_addAgent_8 : decode cX3_addAgent 8 = .ok (.iconst 1, 1) := by decide +kernel
theorem dX3_addAgent_9 : decode cX3_addAgent 9 = .ok (.if_icmp .lt 18, 3) := by decide +kernel
theorem dX3_addAgent_12 : decode cX3_addAgent 12 = .ok (.iload_n 2, 1) := by decide +kernel
theorem dX3_addAgent_13 : decode cX3_addAgent 13 = .ok (.bipush 127, 2) := by decide +kernel
theorem dX3_addAgent_15 : decode cX3_addAgent 15 = .ok (.if_icmp .gt 12, 3) := by decide +kernel
theorem dX3_addAgent_18 : decode cX3_addAgent 18 = .ok (.iload_n 3, 1) := by decide +kernel
theorem dX3_addAgent_19 : decode cX3_addAgent 19 = .ok (.iload 4, 2) := by decide +kernel
theorem dX3_addAgent_21 : decode cX3_addAgent 21 = .ok (.invokestatic 37, 3) := by decide +kernel
theorem dX3_addAgent_24 : decode cX3_addAgent 24 = .ok (.ifCond .ne 13, 3) := by decide +kernel
theorem dX3_addAgent_27 : decode cX3_addAgent 27 = .ok (.new 41, 3) := by decide +kernel
theorem dX3_addAgent_30 : decode cX3_addAgent 30 = .ok (.dup, 1) := by decide +kernel
theorem dX3_addAgent_31 : decode cX3_addAgent 31 = .ok (.ldc 75, 2) := by decide +kernel
theorem dX3_addAgent_33 : decode cX3_addAgent 33 = .ok (.invokespecial 45, 3) := by decide +kernel
theorem dX3_addAgent_36 : decode cX3_addAgent 36 = .ok (.athrow, 1) := by decide +kernel
theorem dX3_addAgent_37 : decode cX3_addAgent 37 = .ok (.aload_n 0, 1) := by decide +kernel
theorem dX3_addAgent_38 : decode cX3_addAgent 38 = .ok (.getfield 26, 3) := by decide +kernel
theorem dX3_addAgent_41 : decode cX3_addAgent 41 = .ok (.invokevirtual 77, 3) := by decide +kernel
theorem dX3_addAgent_44 : decode cX3_addAgent 44 = .ok (.bipush 6, 2) := by decide +kernel
theorem dX3_addAgent_46 : decode cX3_addAgent 46 = .ok (.if_icmp .lt 13, 3) := by decide +kernel
theorem dX3_addAgent_49 : decode cX3_addAgent 49 = .ok (.new 81, 3) := by decide +kernel
theorem dX3_addAgent_52 : decode cX3_addAgent 52 = .ok (.dup, 1) := by decide +kernel
theorem dX3_addAgent_53 : decode cX3_addAgent 53 = .ok (.ldc 83, 2) := by decide +kernel
theorem dX3_addAgent_55 : decode cX3_addAgent 55 = .ok (.invokespecial 85, 3) := by decide +kernel
theorem dX3_addAgent_58 : decode cX3_addAgent 58 = .ok (.athrow, 1) := by decide +kernel
theorem dX3_addAgent_59 : decode cX3_addAgent 59 = .ok (.new 86, 3) := by decide +kernel
theorem dX3_addAgent_62 : decode cX3_addAgent 62 = .ok (.dup, 1) := by decide +kernel
theorem dX3_addAgent_63 : decode cX3_addAgent 63 = .ok (.aload_n 0, 1) := by decide +kernel
theorem dX3_addAgent_64 : decode cX3_addAgent 64 = .ok (.getfield 26, 3) := by decide +kernel
theorem dX3_addAgent_67 : decode cX3_addAgent 67 = .ok (.invokevirtual 77, 3) := by decide +kernel
theorem dX3_addAgent_70 : decode cX3_addAgent 70 = .ok (.iload_n 1, 1) := by decide +kernel
theorem dX3_addAgent_71 : decode cX3_addAgent 71 = .ok (.iload_n 2, 1) := by decide +kernel
theorem dX3_addAgent_72 : decode cX3_addAgent 72 = .ok (.iload_n 3, 1) := by decide +kernel
theorem dX3_addAgent_73 : decode cX3_addAgent 73 = .ok (.iload 4, 2) := by decide +kernel
theorem dX3_addAgent_75 : decode cX3_addAgent 75 = .ok (.invokespecial 88, 3) := by decide +kernel
theorem dX3_addAgent_78 : decode cX3_addAgent 78 = .ok (.astore 5, 2) := by decide +kernel
theorem dX3_addAgent_80 : decode cX3_addAgent 80 = .ok (.aload_n 0, 1) := by decide +kernel
theorem dX3_addAgent_81 : decode cX3_addAgent 81 = .ok (.getfield 26, 3) := by decide +kernel
theorem dX3_addAgent_84 : decode cX3_addAgent 84 = .ok (.aload 5, 2) := by decide +kernel
theorem dX3_addAgent_86 : decode cX3_addAgent 86 = .ok (.invokevirtual 91, 3) := by decide +kernel
theorem dX3_addAgent_89 : decode cX3_addAgent 89 = .ok (.pop, 1) := by decide +kernel
theorem dX3_addAgent_90 : decode cX3_addAgent 90 = .ok (.aload 5, 2) := by decide +kernel
theorem dX3_addAgent_92 : decode cX3_addAgent 92 = .ok (.getfield 95, 3) := by decide +kernel
theorem dX3_addAgent_95 : decode cX3_addAgent 95 = .ok (.ireturn, 1) := by decide +kernel
theorem dX3_agent_0 : decode cX3_agent 0 = .ok (.aload_n 0, 1) := by decide +kernel
theorem dX3_agent_1 : decode cX3_agent 1 = .ok (.iload_n 1, 1) := by decide +kernel
theorem dX3_agent_2 : decode cX3_agent 2 = .ok (.invokevirtual 98, 3) := by decide +kernel
theorem dX3_agent_5 : decode cX3_agent 5 = .ok (.astore_n 3, 1) := by decide +kernel
theorem dX3_agent_6 : decode cX3_agent 6 = .ok (.iload_n 2, 1) := by decide +kernel
theorem dX3_agent_7 : decode cX3_agent 7 = .ok (.ifCond .lt 8, 3) := by decide +kernel
theorem dX3_agent_10 : decode cX3_agent 10 = .ok (.iload_n 2, 1) := by decide +kernel
theorem dX3_agent_11 : decode cX3_agent 11 = .ok (.iconst 4, 1) := by decide +kernel
theorem dX3_agent_12 : decode cX3_agent 12 = .ok (.if_icmp .lt 13, 3) := by decide +kernel
theorem dX3_agent_15 : decode cX3_agent 15 = .ok (.new 58, 3) := by decide +kernel
theorem dX3_agent_18 : decode cX3_agent 18 = .ok (.dup, 1) := by decide +kernel
theorem dX3_agent_19 : decode cX3_agent 19 = .ok (.ldc 123, 2) := by decide +kernel
theorem dX3_agent_21 : decode cX3_agent 21 = .ok (.invokespecial 62, 3) := by decide +kernel
theorem dX3_agent_24 : decode cX3_agent 24 = .ok (.athrow, 1) := by decide +kernel
theorem dX3_agent_25 : decode cX3_agent 25 = .ok (.aload_n 0, 1) := by decide +kernel
theorem dX3_agent_26 : decode cX3_agent 26 = .ok (.aload_n 3, 1) := by decide +kernel
theorem dX3_agent_27 : decode cX3_agent 27 = .ok (.iload_n 2, 1) := by decide +kernel
theorem dX3_agent_28 : decode cX3_agent 28 = .ok (.invokevirtual 125, 3) := by decide +kernel
theorem dX3_agent_31 : decode cX3_agent 31 = .ok (.ireturn, 1) := by decide +kernel
theorem dX3_open_0 : decode cX3_open 0 = .ok (.iload_n 1, 1) := by decide +kernel
theorem dX3_open_1 : decode cX3_open 1 = .ok (.ifCond .lt 40, 3) := by decide +kernel
theorem dX3_open_4 : decode cX3_open 4 = .ok (.iload_n 1, 1) := by decide +kernel
theorem dX3_open_5 : decode cX3_open 5 = .ok (.bipush 8, 2) := by decide +kernel
theorem dX3_open_7 : decode cX3_open 7 = .ok (.if_icmp .ge 34, 3) := by decide +kernel
theorem dX3_open_10 : decode cX3_open 10 = .ok (.iload_n 2, 1) := by decide +kernel
theorem dX3_open_11 : decode cX3_open 11 = .ok (.invokestatic 54, 3) := by decide +kernel
theorem dX3_open_14 : decode cX3_open 14 = .ok (.ifCond .eq 27, 3) := by decide +kernel
theorem dX3_open_17 : decode cX3_open 17 = .ok (.iload_n 3, 1) := by decide +kernel
theorem dX3_open_18 : decode cX3_open 18 = .ok (.iconst 1, 1) := by decide +kernel
theorem dX3_open_19 : decode cX3_open 19 = .ok (.if_icmp .lt 22, 3) := by decide +kernel
theorem dX3_open_22 : decode cX3_open 22 = .ok (.iload_n 3, 1) := by decide +kernel
theorem dX3_open_23 : decode cX3_open 23 = .ok (.sipush 600, 3) := by decide +kernel
theorem dX3_open_26 : decode cX3_open 26 = .ok (.if_icmp .gt 15, 3) := by decide +kernel
theorem dX3_open_29 : decode cX3_open 29 = .ok (.iload 4, 2) := by decide +kernel
theorem dX3_open_31 : decode cX3_open 31 = .ok (.ifCond .lt 10, 3) := by decide +kernel
theorem dX3_open_34 : decode cX3_open 34 = .ok (.iload 4, 2) := by decide +kernel
theorem dX3_open_36 : decode cX3_open 36 = .ok (.bipush 10, 2) := by decide +kernel
theorem dX3_open_38 : decode cX3_open 38 = .ok (.if_icmp .lt 13, 3) := by decide +kernel
theorem dX3_open_41 : decode cX3_open 41 = .ok (.new 41, 3) := by decide +kernel
theorem dX3_open_44 : decode cX3_open 44 = .ok (.dup, 1) := by decide +kernel
theorem dX3_open_45 : decode cX3_open 45 = .ok (.ldc 137, 2) := by decide +kernel
theorem dX3_open_47 : decode cX3_open 47 = .ok (.invokespecial 45, 3) := by decide +kernel
theorem dX3_open_50 : decode cX3_open 50 = .ok (.athrow, 1) := by decide +kernel
theorem dX3_open_51 : decode cX3_open 51 = .ok (.aload_n 0, 1) := by decide +kernel
theorem dX3_open_52 : decode cX3_open 52 = .ok (.getfield 30, 3) := by decide +kernel
theorem dX3_open_55 : decode cX3_open 55 = .ok (.invokevirtual 77, 3) := by decide +kernel
theorem dX3_open_58 : decode cX3_open 58 = .ok (.bipush 20, 2) := by decide +kernel
theorem dX3_open_60 : decode cX3_open 60 = .ok (.if_icmp .lt 13, 3) := by decide +kernel
theorem dX3_open_63 : decode cX3_open 63 = .ok (.new 81, 3) := by decide +kernel
theorem dX3_open_66 : decode cX3_open 66 = .ok (.dup, 1) := by decide +kernel
theorem dX3_open_67 : decode cX3_open 67 = .ok (.ldc 139, 2) := by decide +kernel
theorem dX3_open_69 : decode cX3_open 69 = .ok (.invokespecial 85, 3) := by decide +kernel
theorem dX3_open_72 : decode cX3_open 72 = .ok (.athrow, 1) := by decide +kernel
theorem dX3_open_73 : decode cX3_open 73 = .ok (.new 112, 3) := by decide +kernel
theorem dX3_open_76 : decode cX3_open 76 = .ok (.dup, 1) := by decide +kernel
theorem dX3_open_77 : decode cX3_open 77 = .ok (.aload_n 0, 1) := by decide +kernel
theorem dX3_open_78 : decode cX3_open 78 = .ok (.getfield 30, 3) := by decide +kernel
theorem dX3_open_81 : decode cX3_open 81 = .ok (.invokevirtual 77, 3) := by decide +kernel
theorem dX3_open_84 : decode cX3_open 84 = .ok (.iload_n 1, 1) := by decide +kernel
theorem dX3_open_85 : decode cX3_open 85 = .ok (.iload_n 2, 1) := by decide +kernel
theorem dX3_open_86 : decode cX3_open 86 = .ok (.iload_n 3, 1) := by decide +kernel
theorem dX3_open_87 : decode cX3_open 87 = .ok (.iload 4, 2) := by decide +kernel
theorem dX3_open_89 : decode cX3_open 89 = .ok (.invokespecial 141, 3) := by decide +kernel
theorem dX3_open_92 : decode cX3_open 92 = .ok (.astore 5, 2) := by decide +kernel
theorem dX3_open_94 : decode cX3_open 94 = .ok (.aload_n 0, 1) := by decide +kernel
theorem dX3_open_95 : decode cX3_open 95 = .ok (.getfield 30, 3) := by decide +kernel
theorem dX3_open_98 : decode cX3_open 98 = .ok (.aload 5, 2) := by decide +kernel
theorem dX3_open_100 : decode cX3_open 100 = .ok (.invokevirtual 91, 3) := by decide +kernel
theorem dX3_open_103 : decode cX3_open 103 = .ok (.pop, 1) := by decide +kernel
theorem dX3_open_104 : decode cX3_open 104 = .ok (.aload 5, 2) := by decide +kernel
theorem dX3_open_106 : decode cX3_open 106 = .ok (.getfield 142, 3) := by decide +kernel
theorem dX3_open_109 : decode cX3_open 109 = .ok (.ireturn, 1) := by decide +kernel
theorem dX3_pause_0 : decode cX3_pause 0 = .ok (.aload_n 0, 1) := by decide +kernel
theorem dX3_pause_1 : decode cX3_pause 1 = .ok (.iload_n 1, 1) := by decide +kernel
theorem dX3_pause_2 : decode cX3_pause 2 = .ok (.invokevirtual 143, 3) := by decide +kernel
theorem dX3_pause_5 : decode cX3_pause 5 = .ok (.astore_n 2, 1) := by decide +kernel
theorem dX3_pause_6 : decode cX3_pause 6 = .ok (.aload_n 2, 1) := by decide +kernel
theorem dX3_pause_7 : decode cX3_pause 7 = .ok (.getfield 147, 3) := by decide +kernel
theorem dX3_pause_10 : decode cX3_pause 10 = .ok (.ifCond .eq 21, 3) := by decide +kernel
theorem dX3_pause_13 : decode cX3_pause 13 = .ok (.aload_n 2, 1) := by decide +kernel
theorem dX3_pause_14 : decode cX3_pause 14 = .ok (.getfield 147, 3) := by decide +kernel
theorem dX3_pause_17 : decode cX3_pause 17 = .ok (.iconst 1, 1) := by decide +kernel
theorem dX3_pause_18 : decode cX3_pause 18 = .ok (.if_icmp .eq 13, 3) := by decide +kernel
theorem dX3_pause_21 : decode cX3_pause 21 = .ok (.new 81, 3) := by decide +kernel
theorem dX3_pause_24 : decode cX3_pause 24 = .ok (.dup, 1) := by decide +kernel
theorem dX3_pause_25 : decode cX3_pause 25 = .ok (.ldc 155, 2) := by decide +kernel
theorem dX3_pause_27 : decode cX3_pause 27 = .ok (.invokespecial 85, 3) := by decide +kernel
theorem dX3_pause_30 : decode cX3_pause 30 = .ok (.athrow, 1) := by decide +kernel
theorem dX3_pause_31 : decode cX3_pause 31 = .ok (.aload_n 2, 1) := by decide +kernel
theorem dX3_pause_32 : decode cX3_pause 32 = .ok (.invokestatic 157, 3) := by decide +kernel
theorem dX3_pause_35 : decode cX3_pause 35 = .ok (.aload_n 2, 1) := by decide +kernel
theorem dX3_pause_36 : decode cX3_pause 36 = .ok (.iconst 2, 1) := by decide +kernel
theorem dX3_pause_37 : decode cX3_pause 37 = .ok (.putfield 147, 3) := by decide +kernel
theorem dX3_pause_40 : decode cX3_pause 40 = .ok (.aload_n 2, 1) := by decide +kernel
theorem dX3_pause_41 : decode cX3_pause 41 = .ok (.aload_n 0, 1) := by decide +kernel
theorem dX3_pause_42 : decode cX3_pause 42 = .ok (.getfield 33, 3) := by decide +kernel
theorem dX3_pause_45 : decode cX3_pause 45 = .ok (.putfield 160, 3) := by decide +kernel
theorem dX3_pause_48 : decode cX3_pause 48 = .ok (.aload_n 2, 1) := by decide +kernel
theorem dX3_pause_49 : decode cX3_pause 49 = .ok (.getfield 163, 3) := by decide +kernel
theorem dX3_pause_52 : decode cX3_pause 52 = .ok (.aload_n 2, 1) := by decide +kernel
theorem dX3_pause_53 : decode cX3_pause 53 = .ok (.getfield 166, 3) := by decide +kernel
theorem dX3_pause_56 : decode cX3_pause 56 = .ok (.isub, 1) := by decide +kernel
theorem dX3_pause_57 : decode cX3_pause 57 = .ok (.ireturn, 1) := by decide +kernel
theorem dX3_resume_0 : decode cX3_resume 0 = .ok (.aload_n 0, 1) := by decide +kernel
theorem dX3_resume_1 : decode cX3_resume 1 = .ok (.iload_n 1, 1) := by decide +kernel
theorem dX3_resume_2 : decode cX3_resume 2 = .ok (.invokevirtual 143, 3) := by decide +kernel
theorem dX3_resume_5 : decode cX3_resume 5 = .ok (.astore_n 2, 1) := by decide +kernel
theorem dX3_resume_6 : decode cX3_resume 6 = .ok (.aload_n 2, 1) := by decide +kernel
theorem dX3_resume_7 : decode cX3_resume 7 = .ok (.getfield 147, 3) := by decide +kernel
theorem dX3_resume_10 : decode cX3_resume 10 = .ok (.iconst 2, 1) := by decide +kernel
theorem dX3_resume_11 : decode cX3_resume 11 = .ok (.if_icmp .eq 13, 3) := by decide +kernel
theorem dX3_resume_14 : decode cX3_resume 14 = .ok (.new 81, 3) := by decide +kernel
theorem dX3_resume_17 : decode cX3_resume 17 = .ok (.dup, 1) := by decide +kernel
theorem dX3_resume_18 : decode cX3_resume 18 = .ok (.ldc 169, 2) := by decide +kernel
theorem dX3_resume_20 : decode cX3_resume 20 = .ok (.invokespecial 85, 3) := by decide +kernel
theorem dX3_resume_23 : decode cX3_resume 23 = .ok (.athrow, 1) := by decide +kernel
theorem dX3_resume_24 : decode cX3_resume 24 = .ok (.aload_n 2, 1) := by decide +kernel
theorem dX3_resume_25 : decode cX3_resume 25 = .ok (.iconst 0, 1) := by decide +kernel
theorem dX3_resume_26 : decode cX3_resume 26 = .ok (.putfield 147, 3) := by decide +kernel
theorem dX3_resume_29 : decode cX3_resume 29 = .ok (.aload_n 0, 1) := by decide +kernel
theorem dX3_resume_30 : decode cX3_resume 30 = .ok (.getfield 33, 3) := by decide +kernel
theorem dX3_resume_33 : decode cX3_resume 33 = .ok (.aload_n 2, 1) := by decide +kernel
theorem dX3_resume_34 : decode cX3_resume 34 = .ok (.getfield 160, 3) := by decide +kernel
theorem dX3_resume_37 : decode cX3_resume 37 = .ok (.isub, 1) := by decide +kernel
theorem dX3_resume_38 : decode cX3_resume 38 = .ok (.ireturn, 1) := by decide +kernel
theorem dX3_merge_0 : decode cX3_merge 0 = .ok (.aload_n 0, 1) := by decide +kernel
theorem dX3_merge_1 : decode cX3_merge 1 = .ok (.iload_n 1, 1) := by decide +kernel
theorem dX3_merge_2 : decode cX3_merge 2 = .ok (.invokevirtual 143, 3) := by decide +kernel
theorem dX3_merge_5 : decode cX3_merge 5 = .ok (.astore_n 3, 1) := by decide +kernel
theorem dX3_merge_6 : decode cX3_merge 6 = .ok (.aload_n 0, 1) := by decide +kernel
theorem dX3_merge_7 : decode cX3_merge 7 = .ok (.iload_n 2, 1) := by decide +kernel
theorem dX3_merge_8 : decode cX3_merge 8 = .ok (.invokevirtual 143, 3) := by decide +kernel
theorem dX3_merge_11 : decode cX3_merge 11 = .ok (.astore 4, 2) := by decide +kernel
theorem dX3_merge_13 : decode cX3_merge 13 = .ok (.iload_n 1, 1) := by decide +kernel
theorem dX3_merge_14 : decode cX3_merge 14 = .ok (.iload_n 2, 1) := by decide +kernel
theorem dX3_merge_15 : decode cX3_merge 15 = .ok (.if_icmp .ne 13, 3) := by decide +kernel
theorem dX3_merge_18 : decode cX3_merge 18 = .ok (.new 41, 3) := by decide +kernel
theorem dX3_merge_21 : decode cX3_merge 21 = .ok (.dup, 1) := by decide +kernel
theorem dX3_merge_22 : decode cX3_merge 22 = .ok (.ldc 171, 2) := by decide +kernel
theorem dX3_merge_24 : decode cX3_merge 24 = .ok (.invokespecial 45, 3) := by decide +kernel
theorem dX3_merge_27 : decode cX3_merge 27 = .ok (.athrow, 1) := by decide +kernel
theorem dX3_merge_28 : decode cX3_merge 28 = .ok (.aload_n 3, 1) := by decide +kernel
theorem dX3_merge_29 : decode cX3_merge 29 = .ok (.invokevirtual 173, 3) := by decide +kernel
theorem dX3_merge_32 : decode cX3_merge 32 = .ok (.ifCond .eq 11, 3) := by decide +kernel
theorem dX3_merge_35 : decode cX3_merge 35 = .ok (.aload 4, 2) := by decide +kernel
theorem dX3_merge_37 : decode cX3_merge 37 = .ok (.invokevirtual 173, 3) := by decide +kernel
theorem dX3_merge_40 : decode cX3_merge 40 = .ok (.ifCond .ne 13, 3) := by decide +kernel
theorem dX3_merge_43 : decode cX3_merge 43 = .ok (.new 81, 3) := by decide +kernel
theorem dX3_merge_46 : decode cX3_merge 46 = .ok (.dup, 1) := by decide +kernel
theorem dX3_merge_47 : decode cX3_merge 47 = .ok (.ldc 177, 2) := by decide +kernel
theorem dX3_merge_49 : decode cX3_merge 49 = .ok (.invokespecial 85, 3) := by decide +kernel
theorem dX3_merge_52 : decode cX3_merge 52 = .ok (.athrow, 1) := by decide +kernel
theorem dX3_merge_53 : decode cX3_merge 53 = .ok (.aload_n 3, 1) := by decide +kernel
theorem dX3_merge_54 : decode cX3_merge 54 = .ok (.invokestatic 157, 3) := by decide +kernel
theorem dX3_merge_57 : decode cX3_merge 57 = .ok (.aload_n 3, 1) := by decide +kernel
theorem dX3_merge_58 : decode cX3_merge 58 = .ok (.iconst 4, 1) := by decide +kernel
theorem dX3_merge_59 : decode cX3_merge 59 = .ok (.putfield 147, 3) := by decide +kernel
theorem dX3_merge_62 : decode cX3_merge 62 = .ok (.aload_n 3, 1) := by decide +kernel
theorem dX3_merge_63 : decode cX3_merge 63 = .ok (.aload 4, 2) := by decide +kernel
theorem dX3_merge_65 : decode cX3_merge 65 = .ok (.putfield 179, 3) := by decide +kernel
theorem dX3_merge_68 : decode cX3_merge 68 = .ok (.aload 4, 2) := by decide +kernel
theorem dX3_merge_70 : decode cX3_merge 70 = .ok (.aload 4, 2) := by decide +kernel
theorem dX3_merge_72 : decode cX3_merge 72 = .ok (.getfield 152, 3) := by decide +kernel
theorem dX3_merge_75 : decode cX3_merge 75 = .ok (.aload_n 3, 1) := by decide +kernel
theorem dX3_merge_76 : decode cX3_merge 76 = .ok (.getfield 152, 3) := by decide +kernel
theorem dX3_merge_79 : decode cX3_merge 79 = .ok (.invokestatic 182, 3) := by decide +kernel
theorem dX3_merge_82 : decode cX3_merge 82 = .ok (.putfield 152, 3) := by decide +kernel
theorem dX3_merge_85 : decode cX3_merge 85 = .ok (.aload 4, 2) := by decide +kernel
theorem dX3_merge_87 : decode cX3_merge 87 = .ok (.aload 4, 2) := by decide +kernel
theorem dX3_merge_89 : decode cX3_merge 89 = .ok (.getfield 187, 3) := by decide +kernel
theorem dX3_merge_92 : decode cX3_merge 92 = .ok (.aload_n 3, 1) := by decide +kernel
theorem dX3_merge_93 : decode cX3_merge 93 = .ok (.getfield 187, 3) := by decide +kernel
theorem dX3_merge_96 : decode cX3_merge 96 = .ok (.invokestatic 190, 3) := by decide +kernel
theorem dX3_merge_99 : decode cX3_merge 99 = .ok (.putfield 187, 3) := by decide +kernel
theorem dX3_merge_102 : decode cX3_merge 102 = .ok (.aload 4, 2) := by decide +kernel
theorem dX3_merge_104 : decode cX3_merge 104 = .ok (.dup, 1) := by decide +kernel
theorem dX3_merge_105 : decode cX3_merge 105 = .ok (.getfield 193, 3) := by decide +kernel
theorem dX3_merge_108 : decode cX3_merge 108 = .ok (.aload_n 3, 1) := by decide +kernel
theorem dX3_merge_109 : decode cX3_merge 109 = .ok (.getfield 193, 3) := by decide +kernel
theorem dX3_merge_112 : decode cX3_merge 112 = .ok (.ior, 1) := by decide +kernel
theorem dX3_merge_113 : decode cX3_merge 113 = .ok (.putfield 193, 3) := by decide +kernel
theorem dX3_merge_116 : decode cX3_merge 116 = .ok (.aload 4, 2) := by decide +kernel
theorem dX3_merge_118 : decode cX3_merge 118 = .ok (.getfield 193, 3) := by decide +kernel
theorem dX3_merge_121 : decode cX3_merge 121 = .ok (.ireturn, 1) := by decide +kernel
theorem dX3_reopen_0 : decode cX3_reopen 0 = .ok (.aload_n 0, 1) := by decide +kernel
theorem dX3_reopen_1 : decode cX3_reopen 1 = .ok (.iload_n 1, 1) := by decide +kernel
theorem dX3_reopen_2 : decode cX3_reopen 2 = .ok (.invokevirtual 143, 3) := by decide +kernel
theorem dX3_reopen_5 : decode cX3_reopen 5 = .ok (.astore_n 3, 1) := by decide +kernel
theorem dX3_reopen_6 : decode cX3_reopen 6 = .ok (.iload_n 2, 1) := by decide +kernel
theorem dX3_reopen_7 : decode cX3_reopen 7 = .ok (.iconst 1, 1) := by decide +kernel
theorem dX3_reopen_8 : decode cX3_reopen 8 = .ok (.if_icmp .lt 10, 3) := by decide +kernel
theorem dX3_reopen_11 : decode cX3_reopen 11 = .ok (.iload_n 2, 1) := by decide +kernel
theorem dX3_reopen_12 : decode cX3_reopen 12 = .ok (.sipush 300, 3) := by decide +kernel
theorem dX3_reopen_15 : decode cX3_reopen 15 = .ok (.if_icmp .le 13, 3) := by decide +kernel
theorem dX3_reopen_18 : decode cX3_reopen 18 = .ok (.new 41, 3) := by decide +kernel
theorem dX3_reopen_21 : decode cX3_reopen 21 = .ok (.dup, 1) := by decide +kernel
theorem dX3_reopen_22 : decode cX3_reopen 22 = .ok (.ldc 196, 2) := by decide +kernel
theorem dX3_reopen_24 : decode cX3_reopen 24 = .ok (.invokespecial 45, 3) := by decide +kernel
theorem dX3_reopen_27 : decode cX3_reopen 27 = .ok (.athrow, 1) := by decide +kernel
theorem dX3_reopen_28 : decode cX3_reopen 28 = .ok (.aload_n 3, 1) := by decide +kernel
theorem dX3_reopen_29 : decode cX3_reopen 29 = .ok (.getfield 147, 3) := by decide +kernel
theorem dX3_reopen_32 : decode cX3_reopen 32 = .ok (.iconst 3, 1) := by decide +kernel
theorem dX3_reopen_33 : decode cX3_reopen 33 = .ok (.if_icmp .ne 18, 3) := by decide +kernel
theorem dX3_reopen_36 : decode cX3_reopen 36 = .ok (.aload_n 0, 1) := by decide +kernel
theorem dX3_reopen_37 : decode cX3_reopen 37 = .ok (.getfield 33, 3) := by decide +kernel
theorem dX3_reopen_40 : decode cX3_reopen 40 = .ok (.aload_n 3, 1) := by decide +kernel
theorem dX3_reopen_41 : decode cX3_reopen 41 = .ok (.getfield 198, 3) := by decide +kernel
theorem dX3_reopen_44 : decode cX3_reopen 44 = .ok (.isub, 1) := by decide +kernel
theorem dX3_reopen_45 : decode cX3_reopen 45 = .ok (.sipush 7200, 3) := by decide +kernel
theorem dX3_reopen_48 : decode cX3_reopen 48 = .ok (.if_icmp .lt 13, 3) := by decide +kernel
theorem dX3_reopen_51 : decode cX3_reopen 51 = .ok (.new 81, 3) := by decide +kernel
theorem dX3_reopen_54 : decode cX3_reopen 54 = .ok (.dup, 1) := by decide +kernel
theorem dX3_reopen_55 : decode cX3_reopen 55 = .ok (.ldc 201, 2) := by decide +kernel
theorem dX3_reopen_57 : decode cX3_reopen 57 = .ok (.invokespecial 85, 3) := by decide +kernel
theorem dX3_reopen_60 : decode cX3_reopen 60 = .ok (.athrow, 1) := by decide +kernel
theorem dX3_reopen_61 : decode cX3_reopen 61 = .ok (.aload_n 3, 1) := by decide +kernel
theorem dX3_reopen_62 : decode cX3_reopen 62 = .ok (.iconst 0, 1) := by decide +kernel
theorem dX3_reopen_63 : decode cX3_reopen 63 = .ok (.putfield 147, 3) := by decide +kernel
theorem dX3_reopen_66 : decode cX3_reopen 66 = .ok (.aload_n 3, 1) := by decide +kernel
theorem dX3_reopen_67 : decode cX3_reopen 67 = .ok (.dup, 1) := by decide +kernel
theorem dX3_reopen_68 : decode cX3_reopen 68 = .ok (.getfield 163, 3) := by decide +kernel
theorem dX3_reopen_71 : decode cX3_reopen 71 = .ok (.iload_n 2, 1) := by decide +kernel
theorem dX3_reopen_72 : decode cX3_reopen 72 = .ok (.iadd, 1) := by decide +kernel
theorem dX3_reopen_73 : decode cX3_reopen 73 = .ok (.putfield 163, 3) := by decide +kernel
theorem dX3_reopen_76 : decode cX3_reopen 76 = .ok (.aload_n 3, 1) := by decide +kernel
theorem dX3_reopen_77 : decode cX3_reopen 77 = .ok (.dup, 1) := by decide +kernel
theorem dX3_reopen_78 : decode cX3_reopen 78 = .ok (.getfield 203, 3) := by decide +kernel
theorem dX3_reopen_81 : decode cX3_reopen 81 = .ok (.iconst 1, 1) := by decide +kernel
theorem dX3_reopen_82 : decode cX3_reopen 82 = .ok (.iadd, 1) := by decide +kernel
theorem dX3_reopen_83 : decode cX3_reopen 83 = .ok (.putfield 203, 3) := by decide +kernel
theorem dX3_reopen_86 : decode cX3_reopen 86 = .ok (.aload_n 3, 1) := by decide +kernel
theorem dX3_reopen_87 : decode cX3_reopen 87 = .ok (.getfield 163, 3) := by decide +kernel
theorem dX3_reopen_90 : decode cX3_reopen 90 = .ok (.ireturn, 1) := by decide +kernel
theorem dX3_ticket_0 : decode cX3_ticket 0 = .ok (.aload_n 0, 1) := by decide +kernel
theorem dX3_ticket_1 : decode cX3_ticket 1 = .ok (.iload_n 1, 1) := by decide +kernel
theorem dX3_ticket_2 : decode cX3_ticket 2 = .ok (.invokevirtual 143, 3) := by decide +kernel
theorem dX3_ticket_5 : decode cX3_ticket 5 = .ok (.astore_n 3, 1) := by decide +kernel
theorem dX3_ticket_6 : decode cX3_ticket 6 = .ok (.iload_n 2, 1) := by decide +kernel
theorem dX3_ticket_7 : decode cX3_ticket 7 = .ok (.ifCond .lt 9, 3) := by decide +kernel
theorem dX3_ticket_10 : decode cX3_ticket 10 = .ok (.iload_n 2, 1) := by decide +kernel
theorem dX3_ticket_11 : decode cX3_ticket 11 = .ok (.bipush 8, 2) := by decide +kernel
theorem dX3_ticket_13 : decode cX3_ticket 13 = .ok (.if_icmp .lt 13, 3) := by decide +kernel
theorem dX3_ticket_16 : decode cX3_ticket 16 = .ok (.new 58, 3) := by decide +kernel
theorem dX3_ticket_19 : decode cX3_ticket 19 = .ok (.dup, 1) := by decide +kernel
theorem dX3_ticket_20 : decode cX3_ticket 20 = .ok (.ldc 206, 2) := by decide +kernel
theorem dX3_ticket_22 : decode cX3_ticket 22 = .ok (.invokespecial 62, 3) := by decide +kernel
theorem dX3_ticket_25 : decode cX3_ticket 25 = .ok (.athrow, 1) := by decide +kernel
theorem dX3_ticket_26 : decode cX3_ticket 26 = .ok (.aload_n 3, 1) := by decide +kernel
theorem dX3_ticket_27 : decode cX3_ticket 27 = .ok (.iload_n 2, 1) := by decide +kernel
theorem dX3_ticket_28 : decode cX3_ticket 28 = .ok (.invokestatic 208, 3) := by decide +kernel
theorem dX3_ticket_31 : decode cX3_ticket 31 = .ok (.ireturn, 1) := by decide +kernel
theorem dX3_pass_0 : decode cX3_pass 0 = .ok (.iload_n 1, 1) := by decide +kernel
theorem dX3_pass_1 : decode cX3_pass 1 = .ok (.iconst 1, 1) := by decide +kernel
theorem dX3_pass_2 : decode cX3_pass 2 = .ok (.if_icmp .lt 10, 3) := by decide +kernel
theorem dX3_pass_5 : decode cX3_pass 5 = .ok (.iload_n 1, 1) := by decide +kernel
theorem dX3_pass_6 : decode cX3_pass 6 = .ok (.sipush 600, 3) := by decide +kernel
theorem dX3_pass_9 : decode cX3_pass 9 = .ok (.if_icmp .le 13, 3) := by decide +kernel
theorem dX3_pass_12 : decode cX3_pass 12 = .ok (.new 41, 3) := by decide +kernel
theorem dX3_pass_15 : decode cX3_pass 15 = .ok (.dup, 1) := by decide +kernel
theorem dX3_pass_16 : decode cX3_pass 16 = .ok (.ldc 222, 2) := by decide +kernel
theorem dX3_pass_18 : decode cX3_pass 18 = .ok (.invokespecial 45, 3) := by decide +kernel
theorem dX3_pass_21 : decode cX3_pass 21 = .ok (.athrow, 1) := by decide +kernel
theorem dX3_pass_22 : decode cX3_pass 22 = .ok (.iload_n 1, 1) := by decide +kernel
theorem dX3_pass_23 : decode cX3_pass 23 = .ok (.ldc 65, 2) := by decide +kernel
theorem dX3_pass_25 : decode cX3_pass 25 = .ok (.aload_n 0, 1) := by decide +kernel
theorem dX3_pass_26 : decode cX3_pass 26 = .ok (.getfield 33, 3) := by decide +kernel
theorem dX3_pass_29 : decode cX3_pass 29 = .ok (.isub, 1) := by decide +kernel
theorem dX3_pass_30 : decode cX3_pass 30 = .ok (.if_icmp .le 13, 3) := by decide +kernel
theorem dX3_pass_33 : decode cX3_pass 33 = .ok (.new 81, 3) := by decide +kernel
theorem dX3_pass_36 : decode cX3_pass 36 = .ok (.dup, 1) := by decide +kernel
theorem dX3_pass_37 : decode cX3_pass 37 = .ok (.ldc 224, 2) := by decide +kernel
theorem dX3_pass_39 : decode cX3_pass 39 = .ok (.invokespecial 85, 3) := by decide +kernel
theorem dX3_pass_42 : decode cX3_pass 42 = .ok (.athrow, 1) := by decide +kernel
theorem dX3_pass_43 : decode cX3_pass 43 = .ok (.iconst 0, 1) := by decide +kernel
theorem dX3_pass_44 : decode cX3_pass 44 = .ok (.istore_n 2, 1) := by decide +kernel
theorem dX3_pass_45 : decode cX3_pass 45 = .ok (.iconst 0, 1) := by decide +kernel
theorem dX3_pass_46 : decode cX3_pass 46 = .ok (.istore_n 3, 1) := by decide +kernel
theorem dX3_pass_47 : decode cX3_pass 47 = .ok (.iload_n 3, 1) := by decide +kernel
theorem dX3_pass_48 : decode cX3_pass 48 = .ok (.iload_n 1, 1) := by decide +kernel
theorem dX3_pass_49 : decode cX3_pass 49 = .ok (.if_icmp .ge 16, 3) := by decide +kernel
theorem dX3_pass_52 : decode cX3_pass 52 = .ok (.iload_n 2, 1) := by decide +kernel
theorem dX3_pass_53 : decode cX3_pass 53 = .ok (.aload_n 0, 1) := by decide +kernel
theorem dX3_pass_54 : decode cX3_pass 54 = .ok (.invokevirtual 226, 3) := by decide +kernel
theorem dX3_pass_57 : decode cX3_pass 57 = .ok (.iadd, 1) := by decide +kernel
theorem dX3_pass_58 : decode cX3_pass 58 = .ok (.istore_n 2, 1) := by decide +kernel
theorem dX3_pass_59 : decode cX3_pass 59 = .ok (.iinc 3 1, 3) := by decide +kernel
theorem dX3_pass_62 : decode cX3_pass 62 = .ok (.goto (-15), 3) := by decide +kernel
theorem dX3_pass_65 : decode cX3_pass 65 = .ok (.iload_n 2, 1) := by decide +kernel
theorem dX3_pass_66 : decode cX3_pass 66 = .ok (.ireturn, 1) := by decide +kernel
theorem dX3_all_0 : decode cX3_all 0 = .ok (.iload_n 1, 1) := by decide +kernel
theorem dX3_all_1 : decode cX3_all 1 = .ok (.ifCond .lt 8, 3) := by decide +kernel
theorem dX3_all_4 : decode cX3_all 4 = .ok (.iload_n 1, 1) := by decide +kernel
theorem dX3_all_5 : decode cX3_all 5 = .ok (.iconst 4, 1) := by decide +kernel
theorem dX3_all_6 : decode cX3_all 6 = .ok (.if_icmp .le 13, 3) := by decide +kernel
theorem dX3_all_9 : decode cX3_all 9 = .ok (.new 58, 3) := by decide +kernel
theorem dX3_all_12 : decode cX3_all 12 = .ok (.dup, 1) := by decide +kernel
theorem dX3_all_13 : decode cX3_all 13 = .ok (.ldc 229, 2) := by decide +kernel
theorem dX3_all_15 : decode cX3_all 15 = .ok (.invokespecial 62, 3) := by decide +kernel
theorem dX3_all_18 : decode cX3_all 18 = .ok (.athrow, 1) := by decide +kernel
theorem dX3_all_19 : decode cX3_all 19 = .ok (.iconst 0, 1) := by decide +kernel
theorem dX3_all_20 : decode cX3_all 20 = .ok (.istore_n 2, 1) := by decide +kernel
theorem dX3_all_21 : decode cX3_all 21 = .ok (.iconst 0, 1) := by decide +kernel
theorem dX3_all_22 : decode cX3_all 22 = .ok (.istore_n 3, 1) := by decide +kernel
theorem dX3_all_23 : decode cX3_all 23 = .ok (.iload_n 3, 1) := by decide +kernel
theorem dX3_all_24 : decode cX3_all 24 = .ok (.aload_n 0, 1) := by decide +kernel
theorem dX3_all_25 : decode cX3_all 25 = .ok (.getfield 30, 3) := by decide +kernel
theorem dX3_all_28 : decode cX3_all 28 = .ok (.invokevirtual 77, 3) := by decide +kernel
theorem dX3_all_31 : decode cX3_all 31 = .ok (.if_icmp .ge 33, 3) := by decide +kernel
theorem dX3_all_34 : decode cX3_all 34 = .ok (.aload_n 0, 1) := by decide +kernel
theorem dX3_all_35 : decode cX3_all 35 = .ok (.getfield 30, 3) := by decide +kernel
theorem dX3_all_38 : decode cX3_all 38 = .ok (.iload_n 3, 1) := by decide +kernel
theorem dX3_all_39 : decode cX3_all 39 = .ok (.invokevirtual 231, 3) := by decide +kernel
theorem dX3_all_42 : decode cX3_all 42 = .ok (.checkcast 112, 3) := by decide +kernel
theorem dX3_all_45 : decode cX3_all 45 = .ok (.getfield 147, 3) := by decide +kernel
theorem dX3_all_48 : decode cX3_all 48 = .ok (.iload_n 1, 1) := by decide +kernel
theorem dX3_all_49 : decode cX3_all 49 = .ok (.if_icmp .ne 9, 3) := by decide +kernel
theorem dX3_all_52 : decode cX3_all 52 = .ok (.iload_n 2, 1) := by decide +kernel
theorem dX3_all_53 : decode cX3_all 53 = .ok (.iconst 1, 1) := by decide +kernel
theorem dX3_all_54 : decode cX3_all 54 = .ok (.iload_n 3, 1) := by decide +kernel
theorem dX3_all_55 : decode cX3_all 55 = .ok (.ishl, 1) := by decide +kernel
theorem dX3_all_56 : decode cX3_all 56 = .ok (.ior, 1) := by decide +kernel
theorem dX3_all_57 : decode cX3_all 57 = .ok (.istore_n 2, 1) := by decide +kernel
theorem dX3_all_58 : decode cX3_all 58 = .ok (.iinc 3 1, 3) := by decide +kernel
theorem dX3_all_61 : decode cX3_all 61 = .ok (.goto (-38), 3) := by decide +kernel
theorem dX3_all_64 : decode cX3_all 64 = .ok (.iload_n 2, 1) := by decide +kernel
theorem dX3_all_65 : decode cX3_all 65 = .ok (.ireturn, 1) := by decide +kernel
theorem dX3_passMinute_0 : decode cX3_passMinute 0 = .ok (.aload_n 0, 1) := by decide +kernel
theorem dX3_passMinute_1 : decode cX3_passMinute 1 = .ok (.invokevirtual 256, 3) := by decide +kernel
theorem dX3_passMinute_4 : decode cX3_passMinute 4 = .ok (.aload_n 0, 1) := by decide +kernel
theorem dX3_passMinute_5 : decode cX3_passMinute 5 = .ok (.invokevirtual 259, 3) := by decide +kernel
theorem dX3_passMinute_8 : decode cX3_passMinute 8 = .ok (.aload_n 0, 1) := by decide +kernel
theorem dX3_passMinute_9 : decode cX3_passMinute 9 = .ok (.getfield 10, 3) := by decide +kernel
theorem dX3_passMinute_12 : decode cX3_passMinute 12 = .ok (.aload_n 0, 1) := by decide +kernel
theorem dX3_passMinute_13 : decode cX3_passMinute 13 = .ok (.getfield 33, 3) := by decide +kernel
theorem dX3_passMinute_16 : decode cX3_passMinute 16 = .ok (.invokevirtual 262, 3) := by decide +kernel
theorem dX3_passMinute_19 : decode cX3_passMinute 19 = .ok (.ifCond .eq 7, 3) := by decide +kernel
theorem dX3_passMinute_22 : decode cX3_passMinute 22 = .ok (.aload_n 0, 1) := by decide +kernel
theorem dX3_passMinute_23 : decode cX3_passMinute 23 = .ok (.invokevirtual 265, 3) := by decide +kernel
theorem dX3_passMinute_26 : decode cX3_passMinute 26 = .ok (.aload_n 0, 1) := by decide +kernel
theorem dX3_passMinute_27 : decode cX3_passMinute 27 = .ok (.invokevirtual 268, 3) := by decide +kernel
theorem dX3_passMinute_30 : decode cX3_passMinute 30 = .ok (.istore_n 1, 1) := by decide +kernel
theorem dX3_passMinute_31 : decode cX3_passMinute 31 = .ok (.aload_n 0, 1) := by decide +kernel
theorem dX3_passMinute_32 : decode cX3_passMinute 32 = .ok (.dup, 1) := by decide +kernel
theorem dX3_passMinute_33 : decode cX3_passMinute 33 = .ok (.getfield 33, 3) := by decide +kernel
theorem dX3_passMinute_36 : decode cX3_passMinute 36 = .ok (.iconst 1, 1) := by decide +kernel
theorem dX3_passMinute_37 : decode cX3_passMinute 37 = .ok (.iadd, 1) := by decide +kernel
theorem dX3_passMinute_38 : decode cX3_passMinute 38 = .ok (.putfield 33, 3) := by decide +kernel
theorem dX3_passMinute_41 : decode cX3_passMinute 41 = .ok (.iload_n 1, 1) := by decide +kernel
theorem dX3_passMinute_42 : decode cX3_passMinute 42 = .ok (.ireturn, 1) := by decide +kernel
theorem dX3_sendHomeAgents_0 : decode cX3_sendHomeAgents 0 = .ok (.iconst 0, 1) := by decide +kernel
theorem dX3_sendHomeAgents_1 : decode cX3_sendHomeAgents 1 = .ok (.istore_n 1, 1) := by decide +kernel
theorem dX3_sendHomeAgents_2 : decode cX3_sendHomeAgents 2 = .ok (.iload_n 1, 1) := by decide +kernel
theorem dX3_sendHomeAgents_3 : decode cX3_sendHomeAgents 3 = .ok (.aload_n 0, 1) := by decide +kernel
theorem dX3_sendHomeAgents_4 : decode cX3_sendHomeAgents 4 = .ok (.getfield 26, 3) := by decide +kernel
theorem dX3_sendHomeAgents_7 : decode cX3_sendHomeAgents 7 = .ok (.invokevirtual 77, 3) := by decide +kernel
theorem dX3_sendHomeAgents_10 : decode cX3_sendHomeAgents 10 = .ok (.if_icmp .ge 45, 3) := by decide +kernel
theorem dX3_sendHomeAgents_13 : decode cX3_sendHomeAgents 13 = .ok (.aload_n 0, 1) := by decide +kernel
theorem dX3_sendHomeAgents_14 : decode cX3_sendHomeAgents 14 = .ok (.getfield 26, 3) := by decide +kernel
theorem dX3_sendHomeAgents_17 : decode cX3_sendHomeAgents 17 = .ok (.iload_n 1, 1) := by decide +kernel
theorem dX3_sendHomeAgents_18 : decode cX3_sendHomeAgents 18 = .ok (.invokevirtual 231, 3) := by decide +kernel
theorem dX3_sendHomeAgents_21 : decode cX3_sendHomeAgents 21 = .ok (.checkcast 86, 3) := by decide +kernel
theorem dX3_sendHomeAgents_24 : decode cX3_sendHomeAgents 24 = .ok (.astore_n 2, 1) := by decide +kernel
theorem dX3_sendHomeAgents_25 : decode cX3_sendHomeAgents 25 = .ok (.aload_n 2, 1) := by decide +kernel
theorem dX3_sendHomeAgents_26 : decode cX3_sendHomeAgents 26 = .ok (.getfield 107, 3) := by decide +kernel
theorem dX3_sendHomeAgents_29 : decode cX3_sendHomeAgents 29 = .ok (.astore_n 3, 1) := by decide +kernel
theorem dX3_sendHomeAgents_30 : decode cX3_sendHomeAgents 30 = .ok (.aload_n 3, 1) := by decide +kernel
theorem dX3_sendHomeAgents_31 : decode cX3_sendHomeAgents 31 = .ok (.ifnull 18, 3) := by decide +kernel
theorem dX3_sendHomeAgents_34 : decode cX3_sendHomeAgents 34 = .ok (.aload_n 2, 1) := by decide +kernel
theorem dX3_sendHomeAgents_35 : decode cX3_sendHomeAgents 35 = .ok (.aload_n 0, 1) := by decide +kernel
theorem dX3_sendHomeAgents_36 : decode cX3_sendHomeAgents 36 = .ok (.getfield 33, 3) := by decide +kernel
theorem dX3_sendHomeAgents_39 : decode cX3_sendHomeAgents 39 = .ok (.invokevirtual 271, 3) := by decide +kernel
theorem dX3_sendHomeAgents_42 : decode cX3_sendHomeAgents 42 = .ok (.ifCond .ne 7, 3) := by decide +kernel
theorem dX3_sendHomeAgents_45 : decode cX3_sendHomeAgents 45 = .ok (.aload_n 3, 1) := by decide +kernel
theorem dX3_sendHomeAgents_46 : decode cX3_sendHomeAgents 46 = .ok (.invokestatic 119, 3) := by decide +kernel
theorem dX3_sendHomeAgents_49 : decode cX3_sendHomeAgents 49 = .ok (.iinc 1 1, 3) := by decide +kernel
theorem dX3_sendHomeAgents_52 : decode cX3_sendHomeAgents 52 = .ok (.goto (-50), 3) := by decide +kernel
theorem dX3_sendHomeAgents_55 : decode cX3_sendHomeAgents 55 = .ok (.return_, 1) := by decide +kernel
theorem dX3_giveOutTickets_0 : decode cX3_giveOutTickets 0 = .ok (.iconst 0, 1) := by decide +kernel
theorem dX3_giveOutTickets_1 : decode cX3_giveOutTickets 1 = .ok (.istore_n 1, 1) := by decide +kernel
theorem dX3_giveOutTickets_2 : decode cX3_giveOutTickets 2 = .ok (.iload_n 1, 1) := by decide +kernel
theorem dX3_giveOutTickets_3 : decode cX3_giveOutTickets 3 = .ok (.aload_n 0, 1) := by decide +kernel
theorem dX3_giveOutTickets_4 : decode cX3_giveOutTickets 4 = .ok (.getfield 26, 3) := by decide +kernel
theorem dX3_giveOutTickets_7 : decode cX3_giveOutTickets 7 = .ok (.invokevirtual 77, 3) := by decide +kernel
theorem dX3_giveOutTickets_10 : decode cX3_giveOutTickets 10 = .ok (.if_icmp .ge 54, 3) := by decide +kernel
theorem dX3_giveOutTickets_13 : decode cX3_giveOutTickets 13 = .ok (.aload_n 0, 1) := by decide +kernel
theorem dX3_giveOutTickets_14 : decode cX3_giveOutTickets 14 = .ok (.getfield 26, 3) := by decide +kernel
theorem dX3_giveOutTickets_17 : decode cX3_giveOutTickets 17 = .ok (.iload_n 1, 1) := by decide +kernel
theorem dX3_giveOutTickets_18 : decode cX3_giveOutTickets 18 = .ok (.invokevirtual 231, 3) := by decide +kernel
theorem dX3_giveOutTickets_21 : decode cX3_giveOutTickets 21 = .ok (.checkcast 86, 3) := by decide +kernel
theorem dX3_giveOutTickets_24 : decode cX3_giveOutTickets 24 = .ok (.astore_n 2, 1) := by decide +kernel
theorem dX3_giveOutTickets_25 : decode cX3_giveOutTickets 25 = .ok (.aload_n 2, 1) := by decide +kernel
theorem dX3_giveOutTickets_26 : decode cX3_giveOutTickets 26 = .ok (.getfield 107, 3) := by decide +kernel
theorem dX3_giveOutTickets_29 : decode cX3_giveOutTickets 29 = .ok (.ifnonnull 29, 3) := by decide +kernel
theorem dX3_giveOutTickets_32 : decode cX3_giveOutTickets 32 = .ok (.aload_n 2, 1) := by decide +kernel
theorem dX3_giveOutTickets_33 : decode cX3_giveOutTickets 33 = .ok (.aload_n 0, 1) := by decide +kernel
theorem dX3_giveOutTickets_34 : decode cX3_giveOutTickets 34 = .ok (.getfield 33, 3) := by decide +kernel
theorem dX3_giveOutTickets_37 : decode cX3_giveOutTickets 37 = .ok (.invokevirtual 271, 3) := by decide +kernel
theorem dX3_giveOutTickets_40 : decode cX3_giveOutTickets 40 = .ok (.ifCond .eq 18, 3) := by decide +kernel
theorem dX3_giveOutTickets_43 : decode cX3_giveOutTickets 43 = .ok (.aload_n 0, 1) := by decide +kernel
theorem dX3_giveOutTickets_44 : decode cX3_giveOutTickets 44 = .ok (.aload_n 2, 1) := by decide +kernel
theorem dX3_giveOutTickets_45 : decode cX3_giveOutTickets 45 = .ok (.invokevirtual 129, 3) := by decide +kernel
theorem dX3_giveOutTickets_48 : decode cX3_giveOutTickets 48 = .ok (.astore_n 3, 1) := by decide +kernel
theorem dX3_giveOutTickets_49 : decode cX3_giveOutTickets 49 = .ok (.aload_n 3, 1) := by decide +kernel
theorem dX3_giveOutTickets_50 : decode cX3_giveOutTickets 50 = .ok (.ifnull 8, 3) := by decide +kernel
theorem dX3_giveOutTickets_53 : decode cX3_giveOutTickets 53 = .ok (.aload_n 3, 1) := by decide +kernel
theorem dX3_giveOutTickets_54 : decode cX3_giveOutTickets 54 = .ok (.aload_n 2, 1) := by decide +kernel
theorem dX3_giveOutTickets_55 : decode cX3_giveOutTickets 55 = .ok (.invokestatic 274, 3) := by decide +kernel
theorem dX3_giveOutTickets_58 : decode cX3_giveOutTickets 58 = .ok (.iinc 1 1, 3) := by decide +kernel
theorem dX3_giveOutTickets_61 : decode cX3_giveOutTickets 61 = .ok (.goto (-59), 3) := by decide +kernel
theorem dX3_giveOutTickets_64 : decode cX3_giveOutTickets 64 = .ok (.return_, 1) := by decide +kernel
theorem dX3_ageTickets_0 : decode cX3_ageTickets 0 = .ok (.iconst 0, 1) := by decide +kernel
theorem dX3_ageTickets_1 : decode cX3_ageTickets 1 = .ok (.istore_n 1, 1) := by decide +kernel
theorem dX3_ageTickets_2 : decode cX3_ageTickets 2 = .ok (.iload_n 1, 1) := by decide +kernel
theorem dX3_ageTickets_3 : decode cX3_ageTickets 3 = .ok (.aload_n 0, 1) := by decide +kernel
theorem dX3_ageTickets_4 : decode cX3_ageTickets 4 = .ok (.getfield 30, 3) := by decide +kernel
theorem dX3_ageTickets_7 : decode cX3_ageTickets 7 = .ok (.invokevirtual 77, 3) := by decide +kernel
theorem dX3_ageTickets_10 : decode cX3_ageTickets 10 = .ok (.if_icmp .ge 46, 3) := by decide +kernel
theorem dX3_ageTickets_13 : decode cX3_ageTickets 13 = .ok (.aload_n 0, 1) := by decide +kernel
theorem dX3_ageTickets_14 : decode cX3_ageTickets 14 = .ok (.getfield 30, 3) := by decide +kernel
theorem dX3_ageTickets_17 : decode cX3_ageTickets 17 = .ok (.iload_n 1, 1) := by decide +kernel
theorem dX3_ageTickets_18 : decode cX3_ageTickets 18 = .ok (.invokevirtual 231, 3) := by decide +kernel
theorem dX3_ageTickets_21 : decode cX3_ageTickets 21 = .ok (.checkcast 112, 3) := by decide +kernel
theorem dX3_ageTickets_24 : decode cX3_ageTickets 24 = .ok (.astore_n 2, 1) := by decide +kernel
theorem dX3_ageTickets_25 : decode cX3_ageTickets 25 = .ok (.aload_n 2, 1) := by decide +kernel
theorem dX3_ageTickets_26 : decode cX3_ageTickets 26 = .ok (.getfield 147, 3) := by decide +kernel
theorem dX3_ageTickets_29 : decode cX3_ageTickets 29 = .ok (.ifCond .eq 11, 3) := by decide +kernel
theorem dX3_ageTickets_32 : decode cX3_ageTickets 32 = .ok (.aload_n 2, 1) := by decide +kernel
theorem dX3_ageTickets_33 : decode cX3_ageTickets 33 = .ok (.getfield 147, 3) := by decide +kernel
theorem dX3_ageTickets_36 : decode cX3_ageTickets 36 = .ok (.iconst 1, 1) := by decide +kernel
theorem dX3_ageTickets_37 : decode cX3_ageTickets 37 = .ok (.if_icmp .ne 13, 3) := by decide +kernel
theorem dX3_ageTickets_40 : decode cX3_ageTickets 40 = .ok (.aload_n 2, 1) := by decide +kernel
theorem dX3_ageTickets_41 : decode cX3_ageTickets 41 = .ok (.dup, 1) := by decide +kernel
theorem dX3_ageTickets_42 : decode cX3_ageTickets 42 = .ok (.getfield 187, 3) := by decide +kernel
theorem dX3_ageTickets_45 : decode cX3_ageTickets 45 = .ok (.iconst 1, 1) := by decide +kernel
theorem dX3_ageTickets_46 : decode cX3_ageTickets 46 = .ok (.iadd, 1) := by decide +kernel
theorem dX3_ageTickets_47 : decode cX3_ageTickets 47 = .ok (.putfield 187, 3) := by decide +kernel
theorem dX3_ageTickets_50 : decode cX3_ageTickets 50 = .ok (.iinc 1 1, 3) := by decide +kernel
theorem dX3_ageTickets_53 : decode cX3_ageTickets 53 = .ok (.goto (-51), 3) := by decide +kernel
theorem dX3_ageTickets_56 : decode cX3_ageTickets 56 = .ok (.return_, 1) := by decide +kernel
theorem dX3_work_0 : decode cX3_work 0 = .ok (.iconst 0, 1) := by decide +kernel
theorem dX3_work_1 : decode cX3_work 1 = .ok (.istore_n 1, 1) := by decide +kernel
theorem dX3_work_2 : decode cX3_work 2 = .ok (.iconst 0, 1) := by decide +kernel
theorem dX3_work_3 : decode cX3_work 3 = .ok (.istore_n 2, 1) := by decide +kernel
theorem dX3_work_4 : decode cX3_work 4 = .ok (.iload_n 2, 1) := by decide +kernel
theorem dX3_work_5 : decode cX3_work 5 = .ok (.aload_n 0, 1) := by decide +kernel
theorem dX3_work_6 : decode cX3_work 6 = .ok (.getfield 26, 3) := by decide +kernel
theorem dX3_work_9 : decode cX3_work 9 = .ok (.invokevirtual 77, 3) := by decide +kernel
theorem dX3_work_12 : decode cX3_work 12 = .ok (.if_icmp .ge 76, 3) := by decide +kernel
theorem dX3_work_15 : decode cX3_work 15 = .ok (.aload_n 0, 1) := by decide +kernel
theorem dX3_work_16 : decode cX3_work 16 = .ok (.getfield 26, 3) := by decide +kernel
theorem dX3_work_19 : decode cX3_work 19 = .ok (.iload_n 2, 1) := by decide +kernel
theorem dX3_work_20 : decode cX3_work 20 = .ok (.invokevirtual 231, 3) := by decide +kernel
theorem dX3_work_23 : decode cX3_work 23 = .ok (.checkcast 86, 3) := by decide +kernel
theorem dX3_work_26 : decode cX3_work 26 = .ok (.astore_n 3, 1) := by decide +kernel
theorem dX3_work_27 : decode cX3_work 27 = .ok (.aload_n 3, 1) := by decide +kernel
theorem dX3_work_28 : decode cX3_work 28 = .ok (.getfield 107, 3) := by decide +kernel
theorem dX3_work_31 : decode cX3_work 31 = .ok (.astore 4, 2) := by decide +kernel
theorem dX3_work_33 : decode cX3_work 33 = .ok (.aload 4, 2) := by decide +kernel
theorem dX3_work_35 : decode cX3_work 35 = .ok (.ifnull 47, 3) := by decide +kernel
theorem dX3_work_38 : decode cX3_work 38 = .ok (.aload_n 3, 1) := by decide +kernel
theorem dX3_work_39 : decode cX3_work 39 = .ok (.dup, 1) := by decide +kernel
theorem dX3_work_40 : decode cX3_work 40 = .ok (.getfield 278, 3) := by decide +kernel
theorem dX3_work_43 : decode cX3_work 43 = .ok (.iconst 1, 1) := by decide +kernel
theorem dX3_work_44 : decode cX3_work 44 = .ok (.iadd, 1) := by decide +kernel
theorem dX3_work_45 : decode cX3_work 45 = .ok (.putfield 278, 3) := by decide +kernel
theorem dX3_work_48 : decode cX3_work 48 = .ok (.aload 4, 2) := by decide +kernel
theorem dX3_work_50 : decode cX3_work 50 = .ok (.dup, 1) := by decide +kernel
theorem dX3_work_51 : decode cX3_work 51 = .ok (.getfield 166, 3) := by decide +kernel
theorem dX3_work_54 : decode cX3_work 54 = .ok (.iconst 1, 1) := by decide +kernel
theorem dX3_work_55 : decode cX3_work 55 = .ok (.iadd, 1) := by decide +kernel
theorem dX3_work_56 : decode cX3_work 56 = .ok (.putfield 166, 3) := by decide +kernel
theorem dX3_work_59 : decode cX3_work 59 = .ok (.aload 4, 2) := by decide +kernel
theorem dX3_work_61 : decode cX3_work 61 = .ok (.getfield 166, 3) := by decide +kernel
theorem dX3_work_64 : decode cX3_work 64 = .ok (.aload 4, 2) := by decide +kernel
theorem dX3_work_66 : decode cX3_work 66 = .ok (.getfield 163, 3) := by decide +kernel
theorem dX3_work_69 : decode cX3_work 69 = .ok (.if_icmp .ne 13, 3) := by decide +kernel
theorem dX3_work_72 : decode cX3_work 72 = .ok (.aload_n 0, 1) := by decide +kernel
theorem dX3_work_73 : decode cX3_work 73 = .ok (.aload 4, 2) := by decide +kernel
theorem dX3_work_75 : decode cX3_work 75 = .ok (.aload_n 3, 1) := by decide +kernel
theorem dX3_work_76 : decode cX3_work 76 = .ok (.invokevirtual 281, 3) := by decide +kernel
theorem dX3_work_79 : decode cX3_work 79 = .ok (.iinc 1 1, 3) := by decide +kernel
theorem dX3_work_82 : decode cX3_work 82 = .ok (.iinc 2 1, 3) := by decide +kernel
theorem dX3_work_85 : decode cX3_work 85 = .ok (.goto (-81), 3) := by decide +kernel
theorem dX3_work_88 : decode cX3_work 88 = .ok (.iload_n 1, 1) := by decide +kernel
theorem dX3_work_89 : decode cX3_work 89 = .ok (.ireturn, 1) := by decide +kernel
theorem dX3_solve_0 : decode cX3_solve 0 = .ok (.aload_n 1, 1) := by decide +kernel
theorem dX3_solve_1 : decode cX3_solve 1 = .ok (.invokestatic 157, 3) := by decide +kernel
theorem dX3_solve_4 : decode cX3_solve 4 = .ok (.aload_n 1, 1) := by decide +kernel
theorem dX3_solve_5 : decode cX3_solve 5 = .ok (.iconst 3, 1) := by decide +kernel
theorem dX3_solve_6 : decode cX3_solve 6 = .ok (.putfield 147, 3) := by decide +kernel
theorem dX3_solve_9 : decode cX3_solve 9 = .ok (.aload_n 1, 1) := by decide +kernel
theorem dX3_solve_10 : decode cX3_solve 10 = .ok (.aload_n 0, 1) := by decide +kernel
theorem dX3_solve_11 : decode cX3_solve 11 = .ok (.getfield 33, 3) := by decide +kernel
theorem dX3_solve_14 : decode cX3_solve 14 = .ok (.iconst 1, 1) := by decide +kernel
theorem dX3_solve_15 : decode cX3_solve 15 = .ok (.iadd, 1) := by decide +kernel
theorem dX3_solve_16 : decode cX3_solve 16 = .ok (.putfield 198, 3) := by decide +kernel
theorem dX3_solve_19 : decode cX3_solve 19 = .ok (.aload_n 2, 1) := by decide +kernel
theorem dX3_solve_20 : decode cX3_solve 20 = .ok (.dup, 1) := by decide +kernel
theorem dX3_solve_21 : decode cX3_solve 21 = .ok (.getfield 284, 3) := by decide +kernel
theorem dX3_solve_24 : decode cX3_solve 24 = .ok (.iconst 1, 1) := by decide +kernel
theorem dX3_solve_25 : decode cX3_solve 25 = .ok (.iadd, 1) := by decide +kernel
theorem dX3_solve_26 : decode cX3_solve 26 = .ok (.putfield 284, 3) := by decide +kernel
theorem dX3_solve_29 : decode cX3_solve 29 = .ok (.return_, 1) := by decide +kernel
theorem dX3_give_0 : decode cX3_give 0 = .ok (.aload_n 1, 1) := by decide +kernel
theorem dX3_give_1 : decode cX3_give 1 = .ok (.aload_n 0, 1) := by decide +kernel
theorem dX3_give_2 : decode cX3_give 2 = .ok (.putfield 107, 3) := by decide +kernel
theorem dX3_give_5 : decode cX3_give 5 = .ok (.aload_n 0, 1) := by decide +kernel
theorem dX3_give_6 : decode cX3_give 6 = .ok (.aload_n 1, 1) := by decide +kernel
theorem dX3_give_7 : decode cX3_give 7 = .ok (.putfield 287, 3) := by decide +kernel
theorem dX3_give_10 : decode cX3_give 10 = .ok (.aload_n 0, 1) := by decide +kernel
theorem dX3_give_11 : decode cX3_give 11 = .ok (.aload_n 1, 1) := by decide +kernel
theorem dX3_give_12 : decode cX3_give 12 = .ok (.putfield 291, 3) := by decide +kernel
theorem dX3_give_15 : decode cX3_give 15 = .ok (.aload_n 0, 1) := by decide +kernel
theorem dX3_give_16 : decode cX3_give 16 = .ok (.iconst 1, 1) := by decide +kernel
theorem dX3_give_17 : decode cX3_give 17 = .ok (.putfield 147, 3) := by decide +kernel
theorem dX3_give_20 : decode cX3_give 20 = .ok (.aload_n 0, 1) := by decide +kernel
theorem dX3_give_21 : decode cX3_give 21 = .ok (.getfield 294, 3) := by decide +kernel
theorem dX3_give_24 : decode cX3_give 24 = .ok (.ifCond .ge 11, 3) := by decide +kernel
theorem dX3_give_27 : decode cX3_give 27 = .ok (.aload_n 0, 1) := by decide +kernel
theorem dX3_give_28 : decode cX3_give 28 = .ok (.aload_n 0, 1) := by decide +kernel
theorem dX3_give_29 : decode cX3_give 29 = .ok (.getfield 187, 3) := by decide +kernel
theorem dX3_give_32 : decode cX3_give 32 = .ok (.putfield 294, 3) := by decide +kernel
theorem dX3_give_35 : decode cX3_give 35 = .ok (.return_, 1) := by decide +kernel
theorem dX3_handBack_0 : decode cX3_handBack 0 = .ok (.aload_n 0, 1) := by decide +kernel
theorem dX3_handBack_1 : decode cX3_handBack 1 = .ok (.invokestatic 157, 3) := by decide +kernel
theorem dX3_handBack_4 : decode cX3_handBack 4 = .ok (.aload_n 0, 1) := by decide +kernel
theorem dX3_handBack_5 : decode cX3_handBack 5 = .ok (.iconst 0, 1) := by decide +kernel
theorem dX3_handBack_6 : decode cX3_handBack 6 = .ok (.putfield 147, 3) := by decide +kernel
theorem dX3_handBack_9 : decode cX3_handBack 9 = .ok (.return_, 1) := by decide +kernel
theorem dX3_takeFromHolder_0 : decode cX3_takeFromHolder 0 = .ok (.aload_n 0, 1) := by decide +kernel
theorem dX3_takeFromHolder_1 : decode cX3_takeFromHolder 1 = .ok (.getfield 287, 3) := by decide +kernel
theorem dX3_takeFromHolder_4 : decode cX3_takeFromHolder 4 = .ok (.astore_n 1, 1) := by decide +kernel
theorem dX3_takeFromHolder_5 : decode cX3_takeFromHolder 5 = .ok (.aload_n 1, 1) := by decide +kernel
theorem dX3_takeFromHolder_6 : decode cX3_takeFromHolder 6 = .ok (.ifnull 13, 3) := by decide +kernel
theorem dX3_takeFromHolder_9 : decode cX3_takeFromHolder 9 = .ok (.aload_n 1, 1) := by decide +kernel
theorem dX3_takeFromHolder_10 : decode cX3_takeFromHolder 10 = .ok (.aconst_null, 1) := by decide +kernel
theorem dX3_takeFromHolder_11 : decode cX3_takeFromHolder 11 = .ok (.putfield 107, 3) := by decide +kernel
theorem dX3_takeFromHolder_14 : decode cX3_takeFromHolder 14 = .ok (.aload_n 0, 1) := by decide +kernel
theorem dX3_takeFromHolder_15 : decode cX3_takeFromHolder 15 = .ok (.aconst_null, 1) := by decide +kernel
theorem dX3_takeFromHolder_16 : decode cX3_takeFromHolder 16 = .ok (.putfield 287, 3) := by decide +kernel
theorem dX3_takeFromHolder_19 : decode cX3_takeFromHolder 19 = .ok (.return_, 1) := by decide +kernel
theorem dX3_firstByLiking_0 : decode cX3_firstByLiking 0 = .ok (.aconst_null, 1) := by decide +kernel
theorem dX3_firstByLiking_1 : decode cX3_firstByLiking 1 = .ok (.astore_n 2, 1) := by decide +kernel
theorem dX3_firstByLiking_2 : decode cX3_firstByLiking 2 = .ok (.iconst 0, 1) := by decide +kernel
theorem dX3_firstByLiking_3 : decode cX3_firstByLiking 3 = .ok (.istore_n 3, 1) := by decide +kernel
theorem dX3_firstByLiking_4 : decode cX3_firstByLiking 4 = .ok (.iload_n 3, 1) := by decide +kernel
theorem dX3_firstByLiking_5 : decode cX3_firstByLiking 5 = .ok (.aload_n 0, 1) := by decide +kernel
theorem dX3_firstByLiking_6 : decode cX3_firstByLiking 6 = .ok (.getfield 30, 3) := by decide +kernel
theorem dX3_firstByLiking_9 : decode cX3_firstByLiking 9 = .ok (.invokevirtual 77, 3) := by decide +kernel
theorem dX3_firstByLiking_12 : decode cX3_firstByLiking 12 = .ok (.if_icmp .ge 60, 3) := by decide +kernel
theorem dX3_firstByLiking_15 : decode cX3_firstByLiking 15 = .ok (.aload_n 0, 1) := by decide +kernel
theorem dX3_firstByLiking_16 : decode cX3_firstByLiking 16 = .ok (.getfield 30, 3) := by decide +kernel
theorem dX3_firstByLiking_19 : decode cX3_firstByLiking 19 = .ok (.iload_n 3, 1) := by decide +kernel
theorem dX3_firstByLiking_20 : decode cX3_firstByLiking 20 = .ok (.invokevirtual 231, 3) := by decide +kernel
theorem dX3_firstByLiking_23 : decode cX3_firstByLiking 23 = .ok (.checkcast 112, 3) := by decide +kernel
theorem dX3_firstByLiking_26 : decode cX3_firstByLiking 26 = .ok (.astore 4, 2) := by decide +kernel
theorem dX3_firstByLiking_28 : decode cX3_firstByLiking 28 = .ok (.aload 4, 2) := by decide +kernel
theorem dX3_firstByLiking_30 : decode cX3_firstByLiking 30 = .ok (.getfield 147, 3) := by decide +kernel
theorem dX3_firstByLiking_33 : decode cX3_firstByLiking 33 = .ok (.ifCond .ne 33, 3) := by decide +kernel
theorem dX3_firstByLiking_36 : decode cX3_firstByLiking 36 = .ok (.aload_n 1, 1) := by decide +kernel
theorem dX3_firstByLiking_37 : decode cX3_firstByLiking 37 = .ok (.aload 4, 2) := by decide +kernel
theorem dX3_firstByLiking_39 : decode cX3_firstByLiking 39 = .ok (.getfield 111, 3) := by decide +kernel
theorem dX3_firstByLiking_42 : decode cX3_firstByLiking 42 = .ok (.invokevirtual 116, 3) := by decide +kernel
theorem dX3_firstByLiking_45 : decode cX3_firstByLiking 45 = .ok (.ifCond .eq 21, 3) := by decide +kernel
theorem dX3_firstByLiking_48 : decode cX3_firstByLiking 48 = .ok (.aload_n 2, 1) := by decide +kernel
theorem dX3_firstByLiking_49 : decode cX3_firstByLiking 49 = .ok (.ifnull 14, 3) := by decide +kernel
theorem dX3_firstByLiking_52 : decode cX3_firstByLiking 52 = .ok (.aload_n 0, 1) := by decide +kernel
theorem dX3_firstByLiking_53 : decode cX3_firstByLiking 53 = .ok (.aload_n 1, 1) := by decide +kernel
theorem dX3_firstByLiking_54 : decode cX3_firstByLiking 54 = .ok (.aload 4, 2) := by decide +kernel
theorem dX3_firstByLiking_56 : decode cX3_firstByLiking 56 = .ok (.aload_n 2, 1) := by decide +kernel
theorem dX3_firstByLiking_57 : decode cX3_firstByLiking 57 = .ok (.invokevirtual 297, 3) := by decide +kernel
theorem dX3_firstByLiking_60 : decode cX3_firstByLiking 60 = .ok (.ifCond .eq 6, 3) := by decide +kernel
theorem dX3_firstByLiking_63 : decode cX3_firstByLiking 63 = .ok (.aload 4, 2) := by decide +kernel
theorem dX3_firstByLiking_65 : decode cX3_firstByLiking 65 = .ok (.astore_n 2, 1) := by decide +kernel
theorem dX3_firstByLiking_66 : decode cX3_firstByLiking 66 = .ok (.iinc 3 1, 3) := by decide +kernel
theorem dX3_firstByLiking_69 : decode cX3_firstByLiking 69 = .ok (.goto (-65), 3) := by decide +kernel
theorem dX3_firstByLiking_72 : decode cX3_firstByLiking 72 = .ok (.aload_n 2, 1) := by decide +kernel
theorem dX3_firstByLiking_73 : decode cX3_firstByLiking 73 = .ok (.areturn, 1) := by decide +kernel
theorem dX3_isLikedMore_0 : decode cX3_isLikedMore 0 = .ok (.aload_n 2, 1) := by decide +kernel
theorem dX3_isLikedMore_1 : decode cX3_isLikedMore 1 = .ok (.getfield 291, 3) := by decide +kernel
theorem dX3_isLikedMore_4 : decode cX3_isLikedMore 4 = .ok (.aload_n 1, 1) := by decide +kernel
theorem dX3_isLikedMore_5 : decode cX3_isLikedMore 5 = .ok (.if_acmp .ne 7, 3) := by decide +kernel
theorem dX3_isLikedMore_8 : decode cX3_isLikedMore 8 = .ok (.iconst 1, 1) := by decide +kernel
theorem dX3_isLikedMore_9 : decode cX3_isLikedMore 9 = .ok (.goto 4, 3) := by decide +kernel
theorem dX3_isLikedMore_12 : decode cX3_isLikedMore 12 = .ok (.iconst 0, 1) := by decide +kernel
theorem dX3_isLikedMore_13 : decode cX3_isLikedMore 13 = .ok (.istore 4, 2) := by decide +kernel
theorem dX3_isLikedMore_15 : decode cX3_isLikedMore 15 = .ok (.aload_n 3, 1) := by decide +kernel
theorem dX3_isLikedMore_16 : decode cX3_isLikedMore 16 = .ok (.getfield 291, 3) := by decide +kernel
theorem dX3_isLikedMore_19 : decode cX3_isLikedMore 19 = .ok (.aload_n 1, 1) := by decide +kernel
theorem dX3_isLikedMore_20 : decode cX3_isLikedMore 20 = .ok (.if_acmp .ne 7, 3) := by decide +kernel
theorem dX3_isLikedMore_23 : decode cX3_isLikedMore 23 = .ok (.iconst 1, 1) := by decide +kernel
theorem dX3_isLikedMore_24 : decode cX3_isLikedMore 24 = .ok (.goto 4, 3) := by decide +kernel
theorem dX3_isLikedMore_27 : decode cX3_isLikedMore 27 = .ok (.iconst 0, 1) := by decide +kernel
theorem dX3_isLikedMore_28 : decode cX3_isLikedMore 28 = .ok (.istore 5, 2) := by decide +kernel
theorem dX3_isLikedMore_30 : decode cX3_isLikedMore 30 = .ok (.iload 4, 2) := by decide +kernel
theorem dX3_isLikedMore_32 : decode cX3_isLikedMore 32 = .ok (.iload 5, 2) := by decide +kernel
theorem dX3_isLikedMore_34 : decode cX3_isLikedMore 34 = .ok (.if_icmp .eq 6, 3) := by decide +kernel
theorem dX3_isLikedMore_37 : decode cX3_isLikedMore 37 = .ok (.iload 4, 2) := by decide +kernel
theorem dX3_isLikedMore_39 : decode cX3_isLikedMore 39 = .ok (.ireturn, 1) := by decide +kernel
theorem dX3_isLikedMore_40 : decode cX3_isLikedMore 40 = .ok (.aload_n 0, 1) := by decide +kernel
theorem dX3_isLikedMore_41 : decode cX3_isLikedMore 41 = .ok (.aload_n 2, 1) := by decide +kernel
theorem dX3_isLikedMore_42 : decode cX3_isLikedMore 42 = .ok (.invokevirtual 216, 3) := by decide +kernel
theorem dX3_isLikedMore_45 : decode cX3_isLikedMore 45 = .ok (.aload_n 0, 1) := by decide +kernel
theorem dX3_isLikedMore_46 : decode cX3_isLikedMore 46 = .ok (.aload_n 3, 1) := by decide +kernel
theorem dX3_isLikedMore_47 : decode cX3_isLikedMore 47 = .ok (.invokevirtual 216, 3) := by decide +kernel
theorem dX3_isLikedMore_50 : decode cX3_isLikedMore 50 = .ok (.if_icmp .ge 7, 3) := by decide +kernel
theorem dX3_isLikedMore_53 : decode cX3_isLikedMore 53 = .ok (.iconst 1, 1) := by decide +kernel
theorem dX3_isLikedMore_54 : decode cX3_isLikedMore 54 = .ok (.goto 4, 3) := by decide +kernel
theorem dX3_isLikedMore_57 : decode cX3_isLikedMore 57 = .ok (.iconst 0, 1) := by decide +kernel
theorem dX3_isLikedMore_58 : decode cX3_isLikedMore 58 = .ok (.ireturn, 1) := by decide +kernel
theorem dX3_slackOf_0 : decode cX3_slackOf 0 = .ok (.aload_n 0, 1) := by decide +kernel
theorem dX3_slackOf_1 : decode cX3_slackOf 1 = .ok (.getfield 20, 3) := by decide +kernel
theorem dX3_slackOf_4 : decode cX3_slackOf 4 = .ok (.aload_n 1, 1) := by decide +kernel
theorem dX3_slackOf_5 : decode cX3_slackOf 5 = .ok (.getfield 152, 3) := by decide +kernel
theorem dX3_slackOf_8 : decode cX3_slackOf 8 = .ok (.iaload, 1) := by decide +kernel
theorem dX3_slackOf_9 : decode cX3_slackOf 9 = .ok (.aload_n 1, 1) := by decide +kernel
theorem dX3_slackOf_10 : decode cX3_slackOf 10 = .ok (.getfield 187, 3) := by decide +kernel
theorem dX3_slackOf_13 : decode cX3_slackOf 13 = .ok (.isub, 1) := by decide +kernel
theorem dX3_slackOf_14 : decode cX3_slackOf 14 = .ok (.ireturn, 1) := by decide +kernel
theorem dX3_toldOfAgent_0 : decode cX3_toldOfAgent 0 = .ok (.iload_n 2, 1) := by decide +kernel
theorem dX3_toldOfAgent_1 : decode cX3_toldOfAgent 1 = .ok (.tableswitch 45 0 2 #[27, 35, 40], 27) := by decide +kernel
theorem dX3_toldOfAgent_28 : decode cX3_toldOfAgent 28 = .ok (.aload_n 1, 1) := by decide +kernel
theorem dX3_toldOfAgent_29 : decode cX3_toldOfAgent 29 = .ok (.getfield 107, 3) := by decide +kernel
theorem dX3_toldOfAgent_32 : decode cX3_toldOfAgent 32 = .ok (.invokestatic 133, 3) := by decide +kernel
theorem dX3_toldOfAgent_35 : decode cX3_toldOfAgent 35 = .ok (.ireturn, 1) := by decide +kernel
theorem dX3_toldOfAgent_36 : decode cX3_toldOfAgent 36 = .ok (.aload_n 1, 1) := by decide +kernel
theorem dX3_toldOfAgent_37 : decode cX3_toldOfAgent 37 = .ok (.getfield 278, 3) := by decide +kernel
theorem dX3_toldOfAgent_40 : decode cX3_toldOfAgent 40 = .ok (.ireturn, 1) := by decide +kernel
theorem dX3_toldOfAgent_41 : decode cX3_toldOfAgent 41 = .ok (.aload_n 1, 1) := by decide +kernel
theorem dX3_toldOfAgent_42 : decode cX3_toldOfAgent 42 = .ok (.getfield 284, 3) := by decide +kernel
theorem dX3_toldOfAgent_45 : decode cX3_toldOfAgent 45 = .ok (.ireturn, 1) := by decide +kernel
theorem dX3_toldOfAgent_46 : decode cX3_toldOfAgent 46 = .ok (.aload_n 1, 1) := by decide +kernel
theorem dX3_toldOfAgent_47 : decode cX3_toldOfAgent 47 = .ok (.aload_n 0, 1) := by decide +kernel
theorem dX3_toldOfAgent_48 : decode cX3_toldOfAgent 48 = .ok (.getfield 33, 3) := by decide +kernel
theorem dX3_toldOfAgent_51 : decode cX3_toldOfAgent 51 = .ok (.invokevirtual 271, 3) := by decide +kernel
theorem dX3_toldOfAgent_54 : decode cX3_toldOfAgent 54 = .ok (.ifCond .eq 7, 3) := by decide +kernel
theorem dX3_toldOfAgent_57 : decode cX3_toldOfAgent 57 = .ok (.iconst 1, 1) := by decide +kernel
theorem dX3_toldOfAgent_58 : decode cX3_toldOfAgent 58 = .ok (.goto 4, 3) := by decide +kernel
theorem dX3_toldOfAgent_61 : decode cX3_toldOfAgent 61 = .ok (.iconst 0, 1) := by decide +kernel
theorem dX3_toldOfAgent_62 : decode cX3_toldOfAgent 62 = .ok (.ireturn, 1) := by decide +kernel
theorem dX3_toldOfTicket_0 : decode cX3_toldOfTicket 0 = .ok (.iload_n 1, 1) := by decide +kernel
theorem dX3_toldOfTicket_1 : decode cX3_toldOfTicket 1 = .ok (.tableswitch 81 0 6 #[43, 48, 56, 61, 66, 71, 76], 43) := by decide +kernel
theorem dX3_toldOfTicket_44 : decode cX3_toldOfTicket 44 = .ok (.aload_n 0, 1) := by decide +kernel
theorem dX3_toldOfTicket_45 : decode cX3_toldOfTicket 45 = .ok (.getfield 147, 3) := by decide +kernel
theorem dX3_toldOfTicket_48 : decode cX3_toldOfTicket 48 = .ok (.ireturn, 1) := by decide +kernel
theorem dX3_toldOfTicket_49 : decode cX3_toldOfTicket 49 = .ok (.aload_n 0, 1) := by decide +kernel
theorem dX3_toldOfTicket_50 : decode cX3_toldOfTicket 50 = .ok (.getfield 287, 3) := by decide +kernel
theorem dX3_toldOfTicket_53 : decode cX3_toldOfTicket 53 = .ok (.invokestatic 301, 3) := by decide +kernel
theorem dX3_toldOfTicket_56 : decode cX3_toldOfTicket 56 = .ok (.ireturn, 1) := by decide +kernel
theorem dX3_toldOfTicket_57 : decode cX3_toldOfTicket 57 = .ok (.aload_n 0, 1) := by decide +kernel
theorem dX3_toldOfTicket_58 : decode cX3_toldOfTicket 58 = .ok (.getfield 152, 3) := by decide +kernel
theorem dX3_toldOfTicket_61 : decode cX3_toldOfTicket 61 = .ok (.ireturn, 1) := by decide +kernel
theorem dX3_toldOfTicket_62 : decode cX3_toldOfTicket 62 = .ok (.aload_n 0, 1) := by decide +kernel
theorem dX3_toldOfTicket_63 : decode cX3_toldOfTicket 63 = .ok (.getfield 187, 3) := by decide +kernel
theorem dX3_toldOfTicket_66 : decode cX3_toldOfTicket 66 = .ok (.ireturn, 1) := by decide +kernel
theorem dX3_toldOfTicket_67 : decode cX3_toldOfTicket 67 = .ok (.aload_n 0, 1) := by decide +kernel
theorem dX3_toldOfTicket_68 : decode cX3_toldOfTicket 68 = .ok (.getfield 166, 3) := by decide +kernel
theorem dX3_toldOfTicket_71 : decode cX3_toldOfTicket 71 = .ok (.ireturn, 1) := by decide +kernel
theorem dX3_toldOfTicket_72 : decode cX3_toldOfTicket 72 = .ok (.aload_n 0, 1) := by decide +kernel
theorem dX3_toldOfTicket_73 : decode cX3_toldOfTicket 73 = .ok (.getfield 163, 3) := by decide +kernel
theorem dX3_toldOfTicket_76 : decode cX3_toldOfTicket 76 = .ok (.ireturn, 1) := by decide +kernel
theorem dX3_toldOfTicket_77 : decode cX3_toldOfTicket 77 = .ok (.aload_n 0, 1) := by decide +kernel
theorem dX3_toldOfTicket_78 : decode cX3_toldOfTicket 78 = .ok (.getfield 294, 3) := by decide +kernel
theorem dX3_toldOfTicket_81 : decode cX3_toldOfTicket 81 = .ok (.ireturn, 1) := by decide +kernel
theorem dX3_toldOfTicket_82 : decode cX3_toldOfTicket 82 = .ok (.aload_n 0, 1) := by decide +kernel
theorem dX3_toldOfTicket_83 : decode cX3_toldOfTicket 83 = .ok (.getfield 203, 3) := by decide +kernel
theorem dX3_toldOfTicket_86 : decode cX3_toldOfTicket 86 = .ok (.ireturn, 1) := by decide +kernel
theorem dX3_numberOfAgent_0 : decode cX3_numberOfAgent 0 = .ok (.aload_n 0, 1) := by decide +kernel
theorem dX3_numberOfAgent_1 : decode cX3_numberOfAgent 1 = .ok (.ifnonnull 7, 3) := by decide +kernel
theorem dX3_numberOfAgent_4 : decode cX3_numberOfAgent 4 = .ok (.iconst (-1), 1) := by decide +kernel
theorem dX3_numberOfAgent_5 : decode cX3_numberOfAgent 5 = .ok (.goto 7, 3) := by decide +kernel
theorem dX3_numberOfAgent_8 : decode cX3_numberOfAgent 8 = .ok (.aload_n 0, 1) := by decide +kernel
theorem dX3_numberOfAgent_9 : decode cX3_numberOfAgent 9 = .ok (.getfield 95, 3) := by decide +kernel
theorem dX3_numberOfAgent_12 : decode cX3_numberOfAgent 12 = .ok (.ireturn, 1) := by decide +kernel
theorem dX3_numberOfTicket_0 : decode cX3_numberOfTicket 0 = .ok (.aload_n 0, 1) := by decide +kernel
theorem dX3_numberOfTicket_1 : decode cX3_numberOfTicket 1 = .ok (.ifnonnull 7, 3) := by decide +kernel
theorem dX3_numberOfTicket_4 : decode cX3_numberOfTicket 4 = .ok (.iconst (-1), 1) := by decide +kernel
theorem dX3_numberOfTicket_5 : decode cX3_numberOfTicket 5 = .ok (.goto 7, 3) := by decide +kernel
theorem dX3_numberOfTicket_8 : decode cX3_numberOfTicket 8 = .ok (.aload_n 0, 1) := by decide +kernel
theorem dX3_numberOfTicket_9 : decode cX3_numberOfTicket 9 = .ok (.getfield 142, 3) := by decide +kernel
theorem dX3_numberOfTicket_12 : decode cX3_numberOfTicket 12 = .ok (.ireturn, 1) := by decide +kernel
theorem dX3_agentAt_0 : decode cX3_agentAt 0 = .ok (.iload_n 1, 1) := by decide +kernel
theorem dX3_agentAt_1 : decode cX3_agentAt 1 = .ok (.ifCond .lt 14, 3) := by decide +kernel
theorem dX3_agentAt_4 : decode cX3_agentAt 4 = .ok (.iload_n 1, 1) := by decide +kernel
theorem dX3_agentAt_5 : decode cX3_agentAt 5 = .ok (.aload_n 0, 1) := by decide +kernel
theorem dX3_agentAt_6 : decode cX3_agentAt 6 = .ok (.getfield 26, 3) := by decide +kernel
theorem dX3_agentAt_9 : decode cX3_agentAt 9 = .ok (.invokevirtual 77, 3) := by decide +kernel
theorem dX3_agentAt_12 : decode cX3_agentAt 12 = .ok (.if_icmp .lt 14, 3) := by decide +kernel
theorem dX3_agentAt_15 : decode cX3_agentAt 15 = .ok (.new 58, 3) := by decide +kernel
theorem dX3_agentAt_18 : decode cX3_agentAt 18 = .ok (.dup, 1) := by decide +kernel
theorem dX3_agentAt_19 : decode cX3_agentAt 19 = .ok (.ldc_w 307, 3) := by decide +kernel
theorem dX3_agentAt_22 : decode cX3_agentAt 22 = .ok (.invokespecial 62, 3) := by decide +kernel
theorem dX3_agentAt_25 : decode cX3_agentAt 25 = .ok (.athrow, 1) := by decide +kernel
theorem dX3_agentAt_26 : decode cX3_agentAt 26 = .ok (.aload_n 0, 1) := by decide +kernel
theorem dX3_agentAt_27 : decode cX3_agentAt 27 = .ok (.getfield 26, 3) := by decide +kernel
theorem dX3_agentAt_30 : decode cX3_agentAt 30 = .ok (.iload_n 1, 1) := by decide +kernel
theorem dX3_agentAt_31 : decode cX3_agentAt 31 = .ok (.invokevirtual 231, 3) := by decide +kernel
theorem dX3_agentAt_34 : decode cX3_agentAt 34 = .ok (.checkcast 86, 3) := by decide +kernel
theorem dX3_agentAt_37 : decode cX3_agentAt 37 = .ok (.areturn, 1) := by decide +kernel
theorem dX3_ticketAt_0 : decode cX3_ticketAt 0 = .ok (.iload_n 1, 1) := by decide +kernel
theorem dX3_ticketAt_1 : decode cX3_ticketAt 1 = .ok (.ifCond .lt 14, 3) := by decide +kernel
theorem dX3_ticketAt_4 : decode cX3_ticketAt 4 = .ok (.iload_n 1, 1) := by decide +kernel
theorem dX3_ticketAt_5 : decode cX3_ticketAt 5 = .ok (.aload_n 0, 1) := by decide +kernel
theorem dX3_ticketAt_6 : decode cX3_ticketAt 6 = .ok (.getfield 30, 3) := by decide +kernel
theorem dX3_ticketAt_9 : decode cX3_ticketAt 9 = .ok (.invokevirtual 77, 3) := by decide +kernel
theorem dX3_ticketAt_12 : decode cX3_ticketAt 12 = .ok (.if_icmp .lt 14, 3) := by decide +kernel
theorem dX3_ticketAt_15 : decode cX3_ticketAt 15 = .ok (.new 58, 3) := by decide +kernel
theorem dX3_ticketAt_18 : decode cX3_ticketAt 18 = .ok (.dup, 1) := by decide +kernel
theorem dX3_ticketAt_19 : decode cX3_ticketAt 19 = .ok (.ldc_w 309, 3) := by decide +kernel
theorem dX3_ticketAt_22 : decode cX3_ticketAt 22 = .ok (.invokespecial 62, 3) := by decide +kernel
theorem dX3_ticketAt_25 : decode cX3_ticketAt 25 = .ok (.athrow, 1) := by decide +kernel
theorem dX3_ticketAt_26 : decode cX3_ticketAt 26 = .ok (.aload_n 0, 1) := by decide +kernel
theorem dX3_ticketAt_27 : decode cX3_ticketAt 27 = .ok (.getfield 30, 3) := by decide +kernel
theorem dX3_ticketAt_30 : decode cX3_ticketAt 30 = .ok (.iload_n 1, 1) := by decide +kernel
theorem dX3_ticketAt_31 : decode cX3_ticketAt 31 = .ok (.invokevirtual 231, 3) := by decide +kernel
theorem dX3_ticketAt_34 : decode cX3_ticketAt 34 = .ok (.checkcast 112, 3) := by decide +kernel
theorem dX3_ticketAt_37 : decode cX3_ticketAt 37 = .ok (.areturn, 1) := by decide +kernel
theorem dX3_isPriority_0 : decode cX3_isPriority 0 = .ok (.iload_n 0, 1) := by decide +kernel
theorem dX3_isPriority_1 : decode cX3_isPriority 1 = .ok (.ifCond .lt 12, 3) := by decide +kernel
theorem dX3_isPriority_4 : decode cX3_isPriority 4 = .ok (.iload_n 0, 1) := by decide +kernel
theorem dX3_isPriority_5 : decode cX3_isPriority 5 = .ok (.iconst 4, 1) := by decide +kernel
theorem dX3_isPriority_6 : decode cX3_isPriority 6 = .ok (.if_icmp .ge 7, 3) := by decide +kernel
theorem dX3_isPriority_9 : decode cX3_isPriority 9 = .ok (.iconst 1, 1) := by decide +kernel
theorem dX3_isPriority_10 : decode cX3_isPriority 10 = .ok (.goto 4, 3) := by decide +kernel
theorem dX3_isPriority_13 : decode cX3_isPriority 13 = .ok (.iconst 0, 1) := by decide +kernel
theorem dX3_isPriority_14 : decode cX3_isPriority 14 = .ok (.ireturn, 1) := by decide +kernel
theorem dX3_isSetOfSkills_0 : decode cX3_isSetOfSkills 0 = .ok (.iload_n 0, 1) := by decide +kernel
theorem dX3_isSetOfSkills_1 : decode cX3_isSetOfSkills 1 = .ok (.ifCond .lt 14, 3) := by decide +kernel
theorem dX3_isSetOfSkills_4 : decode cX3_isSetOfSkills 4 = .ok (.iload_n 0, 1) := by decide +kernel
theorem dX3_isSetOfSkills_5 : decode cX3_isSetOfSkills 5 = .ok (.sipush 255, 3) := by decide +kernel
theorem dX3_isSetOfSkills_8 : decode cX3_isSetOfSkills 8 = .ok (.if_icmp .gt 7, 3) := by decide +kernel
theorem dX3_isSetOfSkills_11 : decode cX3_isSetOfSkills 11 = .ok (.iconst 1, 1) := by decide +kernel
theorem dX3_isSetOfSkills_12 : decode cX3_isSetOfSkills 12 = .ok (.goto 4, 3) := by decide +kernel
theorem dX3_isSetOfSkills_15 : decode cX3_isSetOfSkills 15 = .ok (.iconst 0, 1) := by decide +kernel
theorem dX3_isSetOfSkills_16 : decode cX3_isSetOfSkills 16 = .ok (.ireturn, 1) := by decide +kernel
theorem dX3_isSpanOfDay_0 : decode cX3_isSpanOfDay 0 = .ok (.iload_n 0, 1) := by decide +kernel
theorem dX3_isSpanOfDay_1 : decode cX3_isSpanOfDay 1 = .ok (.ifCond .lt 26, 3) := by decide +kernel
theorem dX3_isSpanOfDay_4 : decode cX3_isSpanOfDay 4 = .ok (.iload_n 0, 1) := by decide +kernel
theorem dX3_isSpanOfDay_5 : decode cX3_isSpanOfDay 5 = .ok (.sipush 1440, 3) := by decide +kernel
theorem dX3_isSpanOfDay_8 : decode cX3_isSpanOfDay 8 = .ok (.if_icmp .ge 19, 3) := by decide +kernel
theorem dX3_isSpanOfDay_11 : decode cX3_isSpanOfDay 11 = .ok (.iload_n 1, 1) := by decide +kernel
theorem dX3_isSpanOfDay_12 : decode cX3_isSpanOfDay 12 = .ok (.iload_n 0, 1) := by decide +kernel
theorem dX3_isSpanOfDay_13 : decode cX3_isSpanOfDay 13 = .ok (.if_icmp .le 14, 3) := by decide +kernel
theorem dX3_isSpanOfDay_16 : decode cX3_isSpanOfDay 16 = .ok (.iload_n 1, 1) := by decide +kernel
theorem dX3_isSpanOfDay_17 : decode cX3_isSpanOfDay 17 = .ok (.sipush 1440, 3) := by decide +kernel
theorem dX3_isSpanOfDay_20 : decode cX3_isSpanOfDay 20 = .ok (.if_icmp .gt 7, 3) := by decide +kernel
theorem dX3_isSpanOfDay_23 : decode cX3_isSpanOfDay 23 = .ok (.iconst 1, 1) := by decide +kernel
theorem dX3_isSpanOfDay_24 : decode cX3_isSpanOfDay 24 = .ok (.goto 4, 3) := by decide +kernel
theorem dX3_isSpanOfDay_27 : decode cX3_isSpanOfDay 27 = .ok (.iconst 0, 1) := by decide +kernel
theorem dX3_isSpanOfDay_28 : decode cX3_isSpanOfDay 28 = .ok (.ireturn, 1) := by decide +kernel
theorem dX3_dayOfWeek_0 : decode cX3_dayOfWeek 0 = .ok (.iload_n 0, 1) := by decide +kernel
theorem dX3_dayOfWeek_1 : decode cX3_dayOfWeek 1 = .ok (.sipush 1440, 3) := by decide +kernel
theorem dX3_dayOfWeek_4 : decode cX3_dayOfWeek 4 = .ok (.idiv, 1) := by decide +kernel
theorem dX3_dayOfWeek_5 : decode cX3_dayOfWeek 5 = .ok (.bipush 7, 2) := by decide +kernel
theorem dX3_dayOfWeek_7 : decode cX3_dayOfWeek 7 = .ok (.irem, 1) := by decide +kernel
theorem dX3_dayOfWeek_8 : decode cX3_dayOfWeek 8 = .ok (.ireturn, 1) := by decide +kernel
theorem dJ9_max_7cf53_0 : decode cJ9_max_7cf53 0 = .ok (.iload_n 0, 1) := by decide +kernel
theorem dJ9_max_7cf53_1 : decode cJ9_max_7cf53 1 = .ok (.iload_n 1, 1) := by decide +kernel
theorem dJ9_max_7cf53_2 : decode cJ9_max_7cf53 2 = .ok (.if_icmp .lt 7, 3) := by decide +kernel
theorem dJ9_max_7cf53_5 : decode cJ9_max_7cf53 5 = .ok (.iload_n 0, 1) := by decide +kernel
theorem dJ9_max_7cf53_6 : decode cJ9_max_7cf53 6 = .ok (.goto 4, 3) := by decide +kernel
theorem dJ9_max_7cf53_9 : decode cJ9_max_7cf53 9 = .ok (.iload_n 1, 1) := by decide +kernel
theorem dJ9_max_7cf53_10 : decode cJ9_max_7cf53 10 = .ok (.ireturn, 1) := by decide +kernel
theorem dJ9_min_7cf53_0 : decode cJ9_min_7cf53 0 = .ok (.iload_n 0, 1) := by decide +kernel
theorem dJ9_min_7cf53_1 : decode cJ9_min_7cf53 1 = .ok (.iload_n 1, 1) := by decide +kernel
theorem dJ9_min_7cf53_2 : decode cJ9_min_7cf53 2 = .ok (.if_icmp .gt 7, 3) := by decide +kernel
theorem dJ9_min_7cf53_5 : decode cJ9_min_7cf53 5 = .ok (.iload_n 0, 1) := by decide +kernel
theorem dJ9_min_7cf53_6 : decode cJ9_min_7cf53 6 = .ok (.goto 4, 3) := by decide +kernel
theorem dJ9_min_7cf53_9 : decode cJ9_min_7cf53 9 = .ok (.iload_n 1, 1) := by decide +kernel
theorem dJ9_min_7cf53_10 : decode cJ9_min_7cf53 10 = .ok (.ireturn, 1) := by decide +kernel
theorem dJxa1e45_init_da8c8_0 : decode cJxa1e45_init_da8c8 0 = .ok (.aload_n 0, 1) := by decide +kernel
theorem dJxa1e45_init_da8c8_1 : decode cJxa1e45_init_da8c8 1 = .ok (.invokespecial 1, 3) := by decide +kernel
theorem dJxa1e45_init_da8c8_4 : decode cJxa1e45_init_da8c8 4 = .ok (.return_, 1) := by decide +kernel
theorem dJxc12de_init_da8c8_0 : decode cJxc12de_init_da8c8 0 = .ok (.aload_n 0, 1) := by decide +kernel
theorem dJxc12de_init_da8c8_1 : decode cJxc12de_init_da8c8 1 = .ok (.invokespecial 1, 3) := by decide +kernel
theorem dJxc12de_init_da8c8_4 : decode cJxc12de_init_da8c8 4 = .ok (.aload_n 0, 1) := by decide +kernel
theorem dJxc12de_init_da8c8_5 : decode cJxc12de_init_da8c8 5 = .ok (.iconst 0, 1) := by decide +kernel
theorem dJxc12de_init_da8c8_6 : decode cJxc12de_init_da8c8 6 = .ok (.putfield 7, 3) := by decide +kernel
theorem dJxc12de_init_da8c8_9 : decode cJxc12de_init_da8c8 9 = .ok (.return_, 1) := by decide +kernel
theorem dJx4a65c_init_da8c8_0 : decode cJx4a65c_init_da8c8 0 = .ok (.aload_n 0, 1) := by decide +kernel
theorem dJx4a65c_init_da8c8_1 : decode cJx4a65c_init_da8c8 1 = .ok (.invokespecial 1, 3) := by decide +kernel
theorem dJx4a65c_init_da8c8_4 : decode cJx4a65c_init_da8c8 4 = .ok (.aload_n 0, 1) := by decide +kernel
theorem dJx4a65c_init_da8c8_5 : decode cJx4a65c_init_da8c8 5 = .ok (.getstatic 39, 3) := by decide +kernel
theorem dJx4a65c_init_da8c8_8 : decode cJx4a65c_init_da8c8 8 = .ok (.putfield 9, 3) := by decide +kernel
theorem dJx4a65c_init_da8c8_11 : decode cJx4a65c_init_da8c8 11 = .ok (.return_, 1) := by decide +kernel
theorem dJx4a65c_grow_92f84_0 : decode cJx4a65c_grow_92f84 0 = .ok (.aload_n 0, 1) := by decide +kernel
theorem dJx4a65c_grow_92f84_1 : decode cJx4a65c_grow_92f84 1 = .ok (.getfield 9, 3) := by decide +kernel
theorem dJx4a65c_grow_92f84_4 : decode cJx4a65c_grow_92f84 4 = .ok (.arraylength, 1) := by decide +kernel
theorem dJx4a65c_grow_92f84_5 : decode cJx4a65c_grow_92f84 5 = .ok (.istore_n 2, 1) := by decide +kernel
theorem dJx4a65c_grow_92f84_6 : decode cJx4a65c_grow_92f84 6 = .ok (.iload_n 2, 1) := by decide +kernel
theorem dJx4a65c_grow_92f84_7 : decode cJx4a65c_grow_92f84 7 = .ok (.ifCond .gt 13, 3) := by decide +kernel
theorem dJx4a65c_grow_92f84_10 : decode cJx4a65c_grow_92f84 10 = .ok (.aload_n 0, 1) := by decide +kernel
theorem dJx4a65c_grow_92f84_11 : decode cJx4a65c_grow_92f84 11 = .ok (.getfield 9, 3) := by decide +kernel
theorem dJx4a65c_grow_92f84_14 : decode cJx4a65c_grow_92f84 14 = .ok (.getstatic 39, 3) := by decide +kernel
theorem dJx4a65c_grow_92f84_17 : decode cJx4a65c_grow_92f84 17 = .ok (.if_acmp .eq 28, 3) := by decide +kernel
theorem dJx4a65c_grow_92f84_20 : decode cJx4a65c_grow_92f84 20 = .ok (.iload_n 2, 1) := by decide +kernel
theorem dJx4a65c_grow_92f84_21 : decode cJx4a65c_grow_92f84 21 = .ok (.iload_n 1, 1) := by decide +kernel
theorem dJx4a65c_grow_92f84_22 : decode cJx4a65c_grow_92f84 22 = .ok (.iload_n 2, 1) := by decide +kernel
theorem dJx4a65c_grow_92f84_23 : decode cJx4a65c_grow_92f84 23 = .ok (.isub, 1) := by decide +kernel
theorem dJx4a65c_grow_92f84_24 : decode cJx4a65c_grow_92f84 24 = .ok (.iload_n 2, 1) := by decide +kernel
theorem dJx4a65c_grow_92f84_25 : decode cJx4a65c_grow_92f84 25 = .ok (.iconst 1, 1) := by decide +kernel
theorem dJx4a65c_grow_92f84_26 : decode cJx4a65c_grow_92f84 26 = .ok (.ishr, 1) := by decide +kernel
theorem dJx4a65c_grow_92f84_27 : decode cJx4a65c_grow_92f84 27 = .ok (.invokestatic 73, 3) := by decide +kernel
theorem dJx4a65c_grow_92f84_30 : decode cJx4a65c_grow_92f84 30 = .ok (.istore_n 3, 1) := by decide +kernel
theorem dJx4a65c_grow_92f84_31 : decode cJx4a65c_grow_92f84 31 = .ok (.aload_n 0, 1) := by decide +kernel
theorem dJx4a65c_grow_92f84_32 : decode cJx4a65c_grow_92f84 32 = .ok (.aload_n 0, 1) := by decide +kernel
theorem dJx4a65c_grow_92f84_33 : decode cJx4a65c_grow_92f84 33 = .ok (.getfield 9, 3) := by decide +kernel
theorem dJx4a65c_grow_92f84_36 : decode cJx4a65c_grow_92f84 36 = .ok (.iload_n 3, 1) := by decide +kernel
theorem dJx4a65c_grow_92f84_37 : decode cJx4a65c_grow_92f84 37 = .ok (.invokestatic 66, 3) := by decide +kernel
theorem dJx4a65c_grow_92f84_40 : decode cJx4a65c_grow_92f84 40 = .ok (.dup_x1, 1) := by decide +kernel
theorem dJx4a65c_grow_92f84_41 : decode cJx4a65c_grow_92f84 41 = .ok (.putfield 9, 3) := by decide +kernel
theorem dJx4a65c_grow_92f84_44 : decode cJx4a65c_grow_92f84 44 = .ok (.areturn, 1) := by decide +kernel
theorem dJx4a65c_grow_92f84_45 : decode cJx4a65c_grow_92f84 45 = .ok (.aload_n 0, 1) := by decide +kernel
theorem dJx4a65c_grow_92f84_46 : decode cJx4a65c_grow_92f84 46 = .ok (.bipush 10, 2) := by decide +kernel
theorem dJx4a65c_grow_92f84_48 : decode cJx4a65c_grow_92f84 48 = .ok (.iload_n 1, 1) := by decide +kernel
theorem dJx4a65c_grow_92f84_49 : decode cJx4a65c_grow_92f84 49 = .ok (.invokestatic 79, 3) := by decide +kernel
theorem dJx4a65c_grow_92f84_52 : decode cJx4a65c_grow_92f84 52 = .ok (.anewarray 7, 3) := by decide +kernel
theorem dJx4a65c_grow_92f84_55 : decode cJx4a65c_grow_92f84 55 = .ok (.dup_x1, 1) := by decide +kernel
theorem dJx4a65c_grow_92f84_56 : decode cJx4a65c_grow_92f84 56 = .ok (.putfield 9, 3) := by decide +kernel
theorem dJx4a65c_grow_92f84_59 : decode cJx4a65c_grow_92f84 59 = .ok (.areturn, 1) := by decide +kernel
theorem dJx4a65c_grow_d5877_0 : decode cJx4a65c_grow_d5877 0 = .ok (.aload_n 0, 1) := by decide +kernel
theorem dJx4a65c_grow_d5877_1 : decode cJx4a65c_grow_d5877 1 = .ok (.aload_n 0, 1) := by decide +kernel
theorem dJx4a65c_grow_d5877_2 : decode cJx4a65c_grow_d5877 2 = .ok (.getfield 48, 3) := by decide +kernel
theorem dJx4a65c_grow_d5877_5 : decode cJx4a65c_grow_d5877 5 = .ok (.iconst 1, 1) := by decide +kernel
theorem dJx4a65c_grow_d5877_6 : decode cJx4a65c_grow_d5877 6 = .ok (.iadd, 1) := by decide +kernel
theorem dJx4a65c_grow_d5877_7 : decode cJx4a65c_grow_d5877 7 = .ok (.invokevirtual 69, 3) := by decide +kernel
theorem dJx4a65c_grow_d5877_10 : decode cJx4a65c_grow_d5877 10 = .ok (.areturn, 1) := by decide +kernel
theorem dJx4a65c_size_8abf5_0 : decode cJx4a65c_size_8abf5 0 = .ok (.aload_n 0, 1) := by decide +kernel
theorem dJx4a65c_size_8abf5_1 : decode cJx4a65c_size_8abf5 1 = .ok (.getfield 48, 3) := by decide +kernel
theorem dJx4a65c_size_8abf5_4 : decode cJx4a65c_size_8abf5 4 = .ok (.ireturn, 1) := by decide +kernel
theorem dJx4a65c_elementData_915e3_0 : decode cJx4a65c_elementData_915e3 0 = .ok (.aload_n 0, 1) := by decide +kernel
theorem dJx4a65c_elementData_915e3_1 : decode cJx4a65c_elementData_915e3 1 = .ok (.getfield 9, 3) := by decide +kernel
theorem dJx4a65c_elementData_915e3_4 : decode cJx4a65c_elementData_915e3 4 = .ok (.iload_n 1, 1) := by decide +kernel
theorem dJx4a65c_elementData_915e3_5 : decode cJx4a65c_elementData_915e3 5 = .ok (.aaload, 1) := by decide +kernel
theorem dJx4a65c_elementData_915e3_6 : decode cJx4a65c_elementData_915e3 6 = .ok (.areturn, 1) := by decide +kernel
theorem dJx4a65c_get_915e3_0 : decode cJx4a65c_get_915e3 0 = .ok (.iload_n 1, 1) := by decide +kernel
theorem dJx4a65c_get_915e3_1 : decode cJx4a65c_get_915e3 1 = .ok (.aload_n 0, 1) := by decide +kernel
theorem dJx4a65c_get_915e3_2 : decode cJx4a65c_get_915e3 2 = .ok (.getfield 48, 3) := by decide +kernel
theorem dJx4a65c_get_915e3_5 : decode cJx4a65c_get_915e3 5 = .ok (.invokestatic 118, 3) := by decide +kernel
theorem dJx4a65c_get_915e3_8 : decode cJx4a65c_get_915e3 8 = .ok (.pop, 1) := by decide +kernel
theorem dJx4a65c_get_915e3_9 : decode cJx4a65c_get_915e3 9 = .ok (.aload_n 0, 1) := by decide +kernel
theorem dJx4a65c_get_915e3_10 : decode cJx4a65c_get_915e3 10 = .ok (.iload_n 1, 1) := by decide +kernel
theorem dJx4a65c_get_915e3_11 : decode cJx4a65c_get_915e3 11 = .ok (.invokevirtual 123, 3) := by decide +kernel
theorem dJx4a65c_get_915e3_14 : decode cJx4a65c_get_915e3 14 = .ok (.areturn, 1) := by decide +kernel
theorem dJx4a65c_add_72be8_0 : decode cJx4a65c_add_72be8 0 = .ok (.iload_n 3, 1) := by decide +kernel
theorem dJx4a65c_add_72be8_1 : decode cJx4a65c_add_72be8 1 = .ok (.aload_n 2, 1) := by decide +kernel
theorem dJx4a65c_add_72be8_2 : decode cJx4a65c_add_72be8 2 = .ok (.arraylength, 1) := by decide +kernel
theorem dJx4a65c_add_72be8_3 : decode cJx4a65c_add_72be8 3 = .ok (.if_icmp .ne 8, 3) := by decide +kernel
theorem dJx4a65c_add_72be8_6 : decode cJx4a65c_add_72be8 6 = .ok (.aload_n 0, 1) := by decide +kernel
theorem dJx4a65c_add_72be8_7 : decode cJx4a65c_add_72be8 7 = .ok (.invokevirtual 129, 3) := by decide +kernel
theorem dJx4a65c_add_72be8_10 : decode cJx4a65c_add_72be8 10 = .ok (.astore_n 2, 1) := by decide +kernel
theorem dJx4a65c_add_72be8_11 : decode cJx4a65c_add_72be8 11 = .ok (.aload_n 2, 1) := by decide +kernel
theorem dJx4a65c_add_72be8_12 : decode cJx4a65c_add_72be8 12 = .ok (.iload_n 3, 1) := by decide +kernel
theorem dJx4a65c_add_72be8_13 : decode cJx4a65c_add_72be8 13 = .ok (.aload_n 1, 1) := by decide +kernel
theorem dJx4a65c_add_72be8_14 : decode cJx4a65c_add_72be8 14 = .ok (.aastore, 1) := by decide +kernel
theorem dJx4a65c_add_72be8_15 : decode cJx4a65c_add_72be8 15 = .ok (.aload_n 0, 1) := by decide +kernel
theorem dJx4a65c_add_72be8_16 : decode cJx4a65c_add_72be8 16 = .ok (.iload_n 3, 1) := by decide +kernel
theorem dJx4a65c_add_72be8_17 : decode cJx4a65c_add_72be8 17 = .ok (.iconst 1, 1) := by decide +kernel
theorem dJx4a65c_add_72be8_18 : decode cJx4a65c_add_72be8 18 = .ok (.iadd, 1) := by decide +kernel
theorem dJx4a65c_add_72be8_19 : decode cJx4a65c_add_72be8 19 = .ok (.putfield 48, 3) := by decide +kernel
theorem dJx4a65c_add_72be8_22 : decode cJx4a65c_add_72be8 22 = .ok (.return_, 1) := by decide +kernel
theorem dJx4a65c_add_9ea2d_0 : decode cJx4a65c_add_9ea2d 0 = .ok (.aload_n 0, 1) := by decide +kernel
theorem dJx4a65c_add_9ea2d_1 : decode cJx4a65c_add_9ea2d 1 = .ok (.dup, 1) := by decide +kernel
theorem dJx4a65c_add_9ea2d_2 : decode cJx4a65c_add_9ea2d 2 = .ok (.getfield 63, 3) := by decide +kernel
theorem dJx4a65c_add_9ea2d_5 : decode cJx4a65c_add_9ea2d 5 = .ok (.iconst 1, 1) := by decide +kernel
theorem dJx4a65c_add_9ea2d_6 : decode cJx4a65c_add_9ea2d 6 = .ok (.iadd, 1) := by decide +kernel
theorem dJx4a65c_add_9ea2d_7 : decode cJx4a65c_add_9ea2d 7 = .ok (.putfield 63, 3) := by decide +kernel
theorem dJx4a65c_add_9ea2d_10 : decode cJx4a65c_add_9ea2d 10 = .ok (.aload_n 0, 1) := by decide +kernel
theorem dJx4a65c_add_9ea2d_11 : decode cJx4a65c_add_9ea2d 11 = .ok (.aload_n 1, 1) := by decide +kernel
theorem dJx4a65c_add_9ea2d_12 : decode cJx4a65c_add_9ea2d 12 = .ok (.aload_n 0, 1) := by decide +kernel
theorem dJx4a65c_add_9ea2d_13 : decode cJx4a65c_add_9ea2d 13 = .ok (.getfield 9, 3) := by decide +kernel
theorem dJx4a65c_add_9ea2d_16 : decode cJx4a65c_add_9ea2d 16 = .ok (.aload_n 0, 1) := by decide +kernel
theorem dJx4a65c_add_9ea2d_17 : decode cJx4a65c_add_9ea2d 17 = .ok (.getfield 48, 3) := by decide +kernel
theorem dJx4a65c_add_9ea2d_20 : decode cJx4a65c_add_9ea2d 20 = .ok (.invokevirtual 131, 3) := by decide +kernel
theorem dJx4a65c_add_9ea2d_23 : decode cJx4a65c_add_9ea2d 23 = .ok (.iconst 1, 1) := by decide +kernel
theorem dJx4a65c_add_9ea2d_24 : decode cJx4a65c_add_9ea2d 24 = .ok (.ireturn, 1) := by decide +kernel
theorem dJ7_copyOf_1904c_0 : decode cJ7_copyOf_1904c 0 = .ok (.aload_n 0, 1) := by decide +kernel
theorem dJ7_copyOf_1904c_1 : decode cJ7_copyOf_1904c 1 = .ok (.iload_n 1, 1) := by decide +kernel
theorem dJ7_copyOf_1904c_2 : decode cJ7_copyOf_1904c 2 = .ok (.aload_n 0, 1) := by decide +kernel
theorem dJ7_copyOf_1904c_3 : decode cJ7_copyOf_1904c 3 = .ok (.invokevirtual 86, 3) := by decide +kernel
theorem dJ7_copyOf_1904c_6 : decode cJ7_copyOf_1904c 6 = .ok (.invokestatic 300, 3) := by decide +kernel
theorem dJ7_copyOf_1904c_9 : decode cJ7_copyOf_1904c 9 = .ok (.areturn, 1) := by decide +kernel
theorem dJ7_copyOf_6403c_0 : decode cJ7_copyOf_6403c 0 = .ok (.aload_n 2, 1) := by decide +kernel
theorem dJ7_copyOf_6403c_1 : decode cJ7_copyOf_6403c 1 = .ok (.ldc 110, 2) := by decide +kernel
theorem dJ7_copyOf_6403c_3 : decode cJ7_copyOf_6403c 3 = .ok (.if_acmp .ne 10, 3) := by decide +kernel
theorem dJ7_copyOf_6403c_6 : decode cJ7_copyOf_6403c 6 = .ok (.iload_n 1, 1) := by decide +kernel
theorem dJ7_copyOf_6403c_7 : decode cJ7_copyOf_6403c 7 = .ok (.anewarray 2, 3) := by decide +kernel
theorem dJ7_copyOf_6403c_10 : decode cJ7_copyOf_6403c 10 = .ok (.goto 14, 3) := by decide +kernel
theorem dJ7_copyOf_6403c_13 : decode cJ7_copyOf_6403c 13 = .ok (.aload_n 2, 1) := by decide +kernel
theorem dJ7_copyOf_6403c_14 : decode cJ7_copyOf_6403c 14 = .ok (.invokevirtual 90, 3) := by decide +kernel
theorem dJ7_copyOf_6403c_17 : decode cJ7_copyOf_6403c 17 = .ok (.iload_n 1, 1) := by decide +kernel
theorem dJ7_copyOf_6403c_18 : decode cJ7_copyOf_6403c 18 = .ok (.invokestatic 95, 3) := by decide +kernel
theorem dJ7_copyOf_6403c_21 : decode cJ7_copyOf_6403c 21 = .ok (.checkcast 110, 3) := by decide +kernel
theorem dJ7_copyOf_6403c_24 : decode cJ7_copyOf_6403c 24 = .ok (.astore_n 3, 1) := by decide +kernel
theorem dJ7_copyOf_6403c_25 : decode cJ7_copyOf_6403c 25 = .ok (.aload_n 0, 1) := by decide +kernel
theorem dJ7_copyOf_6403c_26 : decode cJ7_copyOf_6403c 26 = .ok (.iconst 0, 1) := by decide +kernel
theorem dJ7_copyOf_6403c_27 : decode cJ7_copyOf_6403c 27 = .ok (.aload_n 3, 1) := by decide +kernel
theorem dJ7_copyOf_6403c_28 : decode cJ7_copyOf_6403c 28 = .ok (.iconst 0, 1) := by decide +kernel
theorem dJ7_copyOf_6403c_29 : decode cJ7_copyOf_6403c 29 = .ok (.aload_n 0, 1) := by decide +kernel
theorem dJ7_copyOf_6403c_30 : decode cJ7_copyOf_6403c 30 = .ok (.arraylength, 1) := by decide +kernel
theorem dJ7_copyOf_6403c_31 : decode cJ7_copyOf_6403c 31 = .ok (.iload_n 1, 1) := by decide +kernel
theorem dJ7_copyOf_6403c_32 : decode cJ7_copyOf_6403c 32 = .ok (.invokestatic 304, 3) := by decide +kernel
theorem dJ7_copyOf_6403c_35 : decode cJ7_copyOf_6403c 35 = .ok (.invokestatic 150, 3) := by decide +kernel
theorem dJ7_copyOf_6403c_38 : decode cJ7_copyOf_6403c 38 = .ok (.aload_n 3, 1) := by decide +kernel
theorem dJ7_copyOf_6403c_39 : decode cJ7_copyOf_6403c 39 = .ok (.areturn, 1) := by decide +kernel
theorem dJ15_checkIndex_7cf53_0 : decode cJ15_checkIndex_7cf53 0 = .ok (.iload_n 0, 1) := by decide +kernel
theorem dJ15_checkIndex_7cf53_1 : decode cJ15_checkIndex_7cf53 1 = .ok (.iload_n 1, 1) := by decide +kernel
theorem dJ15_checkIndex_7cf53_2 : decode cJ15_checkIndex_7cf53 2 = .ok (.aconst_null, 1) := by decide +kernel
theorem dJ15_checkIndex_7cf53_3 : decode cJ15_checkIndex_7cf53 3 = .ok (.invokestatic 105, 3) := by decide +kernel
theorem dJ15_checkIndex_7cf53_6 : decode cJ15_checkIndex_7cf53 6 = .ok (.ireturn, 1) := by decide +kernel
theorem dJ8_newLength_cabcc_0 : decode cJ8_newLength_cabcc 0 = .ok (.iload_n 0, 1) := by decide +kernel
theorem dJ8_newLength_cabcc_1 : decode cJ8_newLength_cabcc 1 = .ok (.iload_n 1, 1) := by decide +kernel
theorem dJ8_newLength_cabcc_2 : decode cJ8_newLength_cabcc 2 = .ok (.iload_n 2, 1) := by decide +kernel
theorem dJ8_newLength_cabcc_3 : decode cJ8_newLength_cabcc 3 = .ok (.invokestatic 194, 3) := by decide +kernel
theorem dJ8_newLength_cabcc_6 : decode cJ8_newLength_cabcc 6 = .ok (.iadd, 1) := by decide +kernel
theorem dJ8_newLength_cabcc_7 : decode cJ8_newLength_cabcc 7 = .ok (.istore_n 3, 1) := by decide +kernel
theorem dJ8_newLength_cabcc_8 : decode cJ8_newLength_cabcc 8 = .ok (.iconst 0, 1) := by decide +kernel
theorem dJ8_newLength_cabcc_9 : decode cJ8_newLength_cabcc 9 = .ok (.iload_n 3, 1) := by decide +kernel
theorem dJ8_newLength_cabcc_10 : decode cJ8_newLength_cabcc 10 = .ok (.if_icmp .ge 11, 3) := by decide +kernel
theorem dJ8_newLength_cabcc_13 : decode cJ8_newLength_cabcc 13 = .ok (.iload_n 3, 1) := by decide +kernel
theorem dJ8_newLength_cabcc_14 : decode cJ8_newLength_cabcc 14 = .ok (.ldc 200, 2) := by decide +kernel
theorem dJ8_newLength_cabcc_16 : decode cJ8_newLength_cabcc 16 = .ok (.if_icmp .gt 5, 3) := by decide +kernel
theorem dJ8_newLength_cabcc_19 : decode cJ8_newLength_cabcc 19 = .ok (.iload_n 3, 1) := by decide +kernel
theorem dJ8_newLength_cabcc_20 : decode cJ8_newLength_cabcc 20 = .ok (.ireturn, 1) := by decide +kernel
theorem dJ8_newLength_cabcc_21 : decode cJ8_newLength_cabcc 21 = .ok (.iload_n 0, 1) := by decide +kernel
theorem dJ8_newLength_cabcc_22 : decode cJ8_newLength_cabcc 22 = .ok (.iload_n 1, 1) := by decide +kernel
theorem dJ8_newLength_cabcc_23 : decode cJ8_newLength_cabcc 23 = .ok (.invokestatic 201, 3) := by decide +kernel
theorem dJ8_newLength_cabcc_26 : decode cJ8_newLength_cabcc 26 = .ok (.ireturn, 1) := by decide +kernel
theorem dJ8_hugeLength_7cf53_0 : decode cJ8_hugeLength_7cf53 0 = .ok (.iload_n 0, 1) := by decide +kernel
theorem dJ8_hugeLength_7cf53_1 : decode cJ8_hugeLength_7cf53 1 = .ok (.iload_n 1, 1) := by decide +kernel
theorem dJ8_hugeLength_7cf53_2 : decode cJ8_hugeLength_7cf53 2 = .ok (.iadd, 1) := by decide +kernel
theorem dJ8_hugeLength_7cf53_3 : decode cJ8_hugeLength_7cf53 3 = .ok (.istore_n 2, 1) := by decide +kernel
theorem dJ8_hugeLength_7cf53_4 : decode cJ8_hugeLength_7cf53 4 = .ok (.iload_n 2, 1) := by decide +kernel
theorem dJ8_hugeLength_7cf53_5 : decode cJ8_hugeLength_7cf53 5 = .ok (.ifCond .ge 44, 3) := by decide +kernel
theorem dJ8_hugeLength_7cf53_8 : decode cJ8_hugeLength_7cf53 8 = .ok (.new 204, 3) := by decide +kernel
theorem dJ8_hugeLength_7cf53_11 : decode cJ8_hugeLength_7cf53 11 = .ok (.dup, 1) := by decide +kernel
theorem dJ8_hugeLength_7cf53_12 : decode cJ8_hugeLength_7cf53 12 = .ok (.new 89, 3) := by decide +kernel
theorem dJ8_hugeLength_7cf53_15 : decode cJ8_hugeLength_7cf53 15 = .ok (.dup, 1) := by decide +kernel
theorem dJ8_hugeLength_7cf53_16 : decode cJ8_hugeLength_7cf53 16 = .ok (.invokespecial 91, 3) := by decide +kernel
theorem dJ8_hugeLength_7cf53_19 : decode cJ8_hugeLength_7cf53 19 = .ok (.ldc 206, 2) := by decide +kernel
theorem dJ8_hugeLength_7cf53_21 : decode cJ8_hugeLength_7cf53 21 = .ok (.invokevirtual 94, 3) := by decide +kernel
theorem dJ8_hugeLength_7cf53_24 : decode cJ8_hugeLength_7cf53 24 = .ok (.iload_n 0, 1) := by decide +kernel
theorem dJ8_hugeLength_7cf53_25 : decode cJ8_hugeLength_7cf53 25 = .ok (.invokevirtual 98, 3) := by decide +kernel
theorem dJ8_hugeLength_7cf53_28 : decode cJ8_hugeLength_7cf53 28 = .ok (.ldc 208, 2) := by decide +kernel
theorem dJ8_hugeLength_7cf53_30 : decode cJ8_hugeLength_7cf53 30 = .ok (.invokevirtual 94, 3) := by decide +kernel
theorem dJ8_hugeLength_7cf53_33 : decode cJ8_hugeLength_7cf53 33 = .ok (.iload_n 1, 1) := by decide +kernel
theorem dJ8_hugeLength_7cf53_34 : decode cJ8_hugeLength_7cf53 34 = .ok (.invokevirtual 98, 3) := by decide +kernel
theorem dJ8_hugeLength_7cf53_37 : decode cJ8_hugeLength_7cf53 37 = .ok (.ldc 210, 2) := by decide +kernel
theorem dJ8_hugeLength_7cf53_39 : decode cJ8_hugeLength_7cf53 39 = .ok (.invokevirtual 94, 3) := by decide +kernel
theorem dJ8_hugeLength_7cf53_42 : decode cJ8_hugeLength_7cf53 42 = .ok (.invokevirtual 101, 3) := by decide +kernel
theorem dJ8_hugeLength_7cf53_45 : decode cJ8_hugeLength_7cf53 45 = .ok (.invokespecial 212, 3) := by decide +kernel
theorem dJ8_hugeLength_7cf53_48 : decode cJ8_hugeLength_7cf53 48 = .ok (.athrow, 1) := by decide +kernel
theorem dJ8_hugeLength_7cf53_49 : decode cJ8_hugeLength_7cf53 49 = .ok (.iload_n 2, 1) := by decide +kernel
theorem dJ8_hugeLength_7cf53_50 : decode cJ8_hugeLength_7cf53 50 = .ok (.ldc 200, 2) := by decide +kernel
theorem dJ8_hugeLength_7cf53_52 : decode cJ8_hugeLength_7cf53 52 = .ok (.if_icmp .gt 6, 3) := by decide +kernel
theorem dJ8_hugeLength_7cf53_55 : decode cJ8_hugeLength_7cf53 55 = .ok (.ldc 200, 2) := by decide +kernel
theorem dJ8_hugeLength_7cf53_57 : decode cJ8_hugeLength_7cf53 57 = .ok (.ireturn, 1) := by decide +kernel
theorem dJ8_hugeLength_7cf53_58 : decode cJ8_hugeLength_7cf53 58 = .ok (.iload_n 2, 1) := by decide +kernel
theorem dJ8_hugeLength_7cf53_59 : decode cJ8_hugeLength_7cf53 59 = .ok (.ireturn, 1) := by decide +kernel
theorem dJ3_checkIndex_8e157_0 : decode cJ3_checkIndex_8e157 0 = .ok (.iload_n 0, 1) := by decide +kernel
theorem dJ3_checkIndex_8e157_1 : decode cJ3_checkIndex_8e157 1 = .ok (.ifCond .lt 8, 3) := by decide +kernel
theorem dJ3_checkIndex_8e157_4 : decode cJ3_checkIndex_8e157 4 = .ok (.iload_n 0, 1) := by decide +kernel
theorem dJ3_checkIndex_8e157_5 : decode cJ3_checkIndex_8e157 5 = .ok (.iload_n 1, 1) := by decide +kernel
theorem dJ3_checkIndex_8e157_6 : decode cJ3_checkIndex_8e157 6 = .ok (.if_icmp .lt 10, 3) := by decide +kernel
theorem dJ3_checkIndex_8e157_9 : decode cJ3_checkIndex_8e157 9 = .ok (.aload_n 2, 1) := by decide +kernel
theorem dJ3_checkIndex_8e157_10 : decode cJ3_checkIndex_8e157 10 = .ok (.iload_n 0, 1) := by decide +kernel
theorem dJ3_checkIndex_8e157_11 : decode cJ3_checkIndex_8e157 11 = .ok (.iload_n 1, 1) := by decide +kernel
theorem dJ3_checkIndex_8e157_12 : decode cJ3_checkIndex_8e157 12 = .ok (.invokestatic 95, 3) := by decide +kernel
theorem dJ3_checkIndex_8e157_15 : decode cJ3_checkIndex_8e157 15 = .ok (.athrow, 1) := by decide +kernel
theorem dJ3_checkIndex_8e157_16 : decode cJ3_checkIndex_8e157 16 = .ok (.iload_n 0, 1) := by decide +kernel
theorem dJ3_checkIndex_8e157_17 : decode cJ3_checkIndex_8e157 17 = .ok (.ireturn, 1) := by decide +kernel
