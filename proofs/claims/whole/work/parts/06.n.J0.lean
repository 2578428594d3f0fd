/-! instructions of J -/
theorem eJ11_isValidCodePoint_9a6ad_0 : DD cJ11_isValidCodePoint_9a6ad 0 (.iload_n 0) 1 1 := ⟨by decide +kernel, rfl⟩
theorem eJ11_isValidCodePoint_9a6ad_1 : DD cJ11_isValidCodePoint_9a6ad 1 (.bipush 16) 2 3 := ⟨by decide +kernel, rfl⟩
theorem eJ11_isValidCodePoint_9a6ad_3 : DD cJ11_isValidCodePoint_9a6ad 3 (.iushr) 1 4 := ⟨by decide +kernel, rfl⟩
theorem eJ11_isValidCodePoint_9a6ad_4 : DD cJ11_isValidCodePoint_9a6ad 4 (.istore_n 1) 1 5 := ⟨by decide +kernel, rfl⟩
theorem eJ11_isValidCodePoint_9a6ad_5 : DD cJ11_isValidCodePoint_9a6ad 5 (.iload_n 1) 1 6 := ⟨by decide +kernel, rfl⟩
theorem eJ11_isValidCodePoint_9a6ad_6 : DD cJ11_isValidCodePoint_9a6ad 6 (.bipush 17) 2 8 := ⟨by decide +kernel, rfl⟩
theorem eJ11_isValidCodePoint_9a6ad_8 : DB cJ11_isValidCodePoint_9a6ad 8 (.if_icmp .ge 7) (7) 11 15 := ⟨by decide +kernel, rfl, by decide⟩
theorem eJ11_isValidCodePoint_9a6ad_11 : DD cJ11_isValidCodePoint_9a6ad 11 (.iconst 1) 1 12 := ⟨by decide +kernel, rfl⟩
theorem eJ11_isValidCodePoint_9a6ad_12 : DB cJ11_isValidCodePoint_9a6ad 12 (.goto 4) (4) 15 16 := ⟨by decide +kernel, rfl, by decide⟩
theorem eJ11_isValidCodePoint_9a6ad_15 : DD cJ11_isValidCodePoint_9a6ad 15 (.iconst 0) 1 16 := ⟨by decide +kernel, rfl⟩
theorem eJ11_isValidCodePoint_9a6ad_16 : decode cJ11_isValidCodePoint_9a6ad 16 = .ok (.ireturn, 1) := by decide +kernel
theorem eJ11_highSurrogate_5068e_0 : DD cJ11_highSurrogate_5068e 0 (.iload_n 0) 1 1 := ⟨by decide +kernel, rfl⟩
theorem eJ11_highSurrogate_5068e_1 : DD cJ11_highSurrogate_5068e 1 (.bipush 10) 2 3 := ⟨by decide +kernel, rfl⟩
theorem eJ11_highSurrogate_5068e_3 : DD cJ11_highSurrogate_5068e 3 (.iushr) 1 4 := ⟨by decide +kernel, rfl⟩
theorem eJ11_highSurrogate_5068e_4 : DD cJ11_highSurrogate_5068e 4 (.ldc 110) 2 6 := ⟨by decide +kernel, rfl⟩
theorem eJ11_highSurrogate_5068e_6 : DD cJ11_highSurrogate_5068e 6 (.iadd) 1 7 := ⟨by decide +kernel, rfl⟩
theorem eJ11_highSurrogate_5068e_7 : DD cJ11_highSurrogate_5068e 7 (.i2c) 1 8 := ⟨by decide +kernel, rfl⟩
theorem eJ11_highSurrogate_5068e_8 : decode cJ11_highSurrogate_5068e 8 = .ok (.ireturn, 1) := by decide +kernel
theorem eJ11_lowSurrogate_5068e_0 : DD cJ11_lowSurrogate_5068e 0 (.iload_n 0) 1 1 := ⟨by decide +kernel, rfl⟩
theorem eJ11_lowSurrogate_5068e_1 : DD cJ11_lowSurrogate_5068e 1 (.sipush 1023) 3 4 := ⟨by decide +kernel, rfl⟩
theorem eJ11_lowSurrogate_5068e_4 : DD cJ11_lowSurrogate_5068e 4 (.iand) 1 5 := ⟨by decide +kernel, rfl⟩
theorem eJ11_lowSurrogate_5068e_5 : DD cJ11_lowSurrogate_5068e 5 (.ldc 76) 2 7 := ⟨by decide +kernel, rfl⟩
theorem eJ11_lowSurrogate_5068e_7 : DD cJ11_lowSurrogate_5068e 7 (.iadd) 1 8 := ⟨by decide +kernel, rfl⟩
theorem eJ11_lowSurrogate_5068e_8 : DD cJ11_lowSurrogate_5068e 8 (.i2c) 1 9 := ⟨by decide +kernel, rfl⟩
theorem eJ11_lowSurrogate_5068e_9 : decode cJ11_lowSurrogate_5068e 9 = .ok (.ireturn, 1) := by decide +kernel
theorem eJ6_bitCount_0f7a4_0 : DD cJ6_bitCount_0f7a4 0 (.iload_n 0) 1 1 := ⟨by decide +kernel, rfl⟩
theorem eJ6_bitCount_0f7a4_1 : DD cJ6_bitCount_0f7a4 1 (.iload_n 0) 1 2 := ⟨by decide +kernel, rfl⟩
theorem eJ6_bitCount_0f7a4_2 : DD cJ6_bitCount_0f7a4 2 (.iconst 1) 1 3 := ⟨by decide +kernel, rfl⟩
theorem eJ6_bitCount_0f7a4_3 : DD cJ6_bitCount_0f7a4 3 (.iushr) 1 4 := ⟨by decide +kernel, rfl⟩
theorem eJ6_bitCount_0f7a4_4 : DD cJ6_bitCount_0f7a4 4 (.ldc_w 265) 3 7 := ⟨by decide +kernel, rfl⟩
theorem eJ6_bitCount_0f7a4_7 : DD cJ6_bitCount_0f7a4 7 (.iand) 1 8 := ⟨by decide +kernel, rfl⟩
theorem eJ6_bitCount_0f7a4_8 : DD cJ6_bitCount_0f7a4 8 (.isub) 1 9 := ⟨by decide +kernel, rfl⟩
theorem eJ6_bitCount_0f7a4_9 : DD cJ6_bitCount_0f7a4 9 (.istore_n 0) 1 10 := ⟨by decide +kernel, rfl⟩
theorem eJ6_bitCount_0f7a4_10 : DD cJ6_bitCount_0f7a4 10 (.iload_n 0) 1 11 := ⟨by decide +kernel, rfl⟩
theorem eJ6_bitCount_0f7a4_11 : DD cJ6_bitCount_0f7a4 11 (.ldc_w 266) 3 14 := ⟨by decide +kernel, rfl⟩
theorem eJ6_bitCount_0f7a4_14 : DD cJ6_bitCount_0f7a4 14 (.iand) 1 15 := ⟨by decide +kernel, rfl⟩
theorem eJ6_bitCount_0f7a4_15 : DD cJ6_bitCount_0f7a4 15 (.iload_n 0) 1 16 := ⟨by decide +kernel, rfl⟩
theorem eJ6_bitCount_0f7a4_16 : DD cJ6_bitCount_0f7a4 16 (.iconst 2) 1 17 := ⟨by decide +kernel, rfl⟩
theorem eJ6_bitCount_0f7a4_17 : DD cJ6_bitCount_0f7a4 17 (.iushr) 1 18 := ⟨by decide +kernel, rfl⟩
theorem eJ6_bitCount_0f7a4_18 : DD cJ6_bitCount_0f7a4 18 (.ldc_w 266) 3 21 := ⟨by decide +kernel, rfl⟩
theorem eJ6_bitCount_0f7a4_21 : DD cJ6_bitCount_0f7a4 21 (.iand) 1 22 := ⟨by decide +kernel, rfl⟩
theorem eJ6_bitCount_0f7a4_22 : DD cJ6_bitCount_0f7a4 22 (.iadd) 1 23 := ⟨by decide +kernel, rfl⟩
theorem eJ6_bitCount_0f7a4_23 : DD cJ6_bitCount_0f7a4 23 (.istore_n 0) 1 24 := ⟨by decide +kernel, rfl⟩
theorem eJ6_bitCount_0f7a4_24 : DD cJ6_bitCount_0f7a4 24 (.iload_n 0) 1 25 := ⟨by decide +kernel, rfl⟩
theorem eJ6_bitCount_0f7a4_25 : DD cJ6_bitCount_0f7a4 25 (.iload_n 0) 1 26 := ⟨by decide +kernel, rfl⟩
theorem eJ6_bitCount_0f7a4_26 : DD cJ6_bitCount_0f7a4 26 (.iconst 4) 1 27 := ⟨by decide +kernel, rfl⟩
theorem eJ6_bitCount_0f7a4_27 : DD cJ6_bitCount_0f7a4 27 (.iushr) 1 28 := ⟨by decide +kernel, rfl⟩
theorem eJ6_bitCount_0f7a4_28 : DD cJ6_bitCount_0f7a4 28 (.iadd) 1 29 := ⟨by decide +kernel, rfl⟩
theorem eJ6_bitCount_0f7a4_29 : DD cJ6_bitCount_0f7a4 29 (.ldc_w 267) 3 32 := ⟨by decide +kernel, rfl⟩
theorem eJ6_bitCount_0f7a4_32 : DD cJ6_bitCount_0f7a4 32 (.iand) 1 33 := ⟨by decide +kernel, rfl⟩
theorem eJ6_bitCount_0f7a4_33 : DD cJ6_bitCount_0f7a4 33 (.istore_n 0) 1 34 := ⟨by decide +kernel, rfl⟩
theorem eJ6_bitCount_0f7a4_34 : DD cJ6_bitCount_0f7a4 34 (.iload_n 0) 1 35 := ⟨by decide +kernel, rfl⟩
theorem eJ6_bitCount_0f7a4_35 : DD cJ6_bitCount_0f7a4 35 (.iload_n 0) 1 36 := ⟨by decide +kernel, rfl⟩
theorem eJ6_bitCount_0f7a4_36 : DD cJ6_bitCount_0f7a4 36 (.bipush 8) 2 38 := ⟨by decide +kernel, rfl⟩
theorem eJ6_bitCount_0f7a4_38 : DD cJ6_bitCount_0f7a4 38 (.iushr) 1 39 := ⟨by decide +kernel, rfl⟩
theorem eJ6_bitCount_0f7a4_39 : DD cJ6_bitCount_0f7a4 39 (.iadd) 1 40 := ⟨by decide +kernel, rfl⟩
theorem eJ6_bitCount_0f7a4_40 : DD cJ6_bitCount_0f7a4 40 (.istore_n 0) 1 41 := ⟨by decide +kernel, rfl⟩
theorem eJ6_bitCount_0f7a4_41 : DD cJ6_bitCount_0f7a4 41 (.iload_n 0) 1 42 := ⟨by decide +kernel, rfl⟩
theorem eJ6_bitCount_0f7a4_42 : DD cJ6_bitCount_0f7a4 42 (.iload_n 0) 1 43 := ⟨by decide +kernel, rfl⟩
theorem eJ6_bitCount_0f7a4_43 : DD cJ6_bitCount_0f7a4 43 (.bipush 16) 2 45 := ⟨by decide +kernel, rfl⟩
theorem eJ6_bitCount_0f7a4_45 : DD cJ6_bitCount_0f7a4 45 (.iushr) 1 46 := ⟨by decide +kernel, rfl⟩
theorem eJ6_bitCount_0f7a4_46 : DD cJ6_bitCount_0f7a4 46 (.iadd) 1 47 := ⟨by decide +kernel, rfl⟩
theorem eJ6_bitCount_0f7a4_47 : DD cJ6_bitCount_0f7a4 47 (.istore_n 0) 1 48 := ⟨by decide +kernel, rfl⟩
theorem eJ6_bitCount_0f7a4_48 : DD cJ6_bitCount_0f7a4 48 (.iload_n 0) 1 49 := ⟨by decide +kernel, rfl⟩
theorem eJ6_bitCount_0f7a4_49 : DD cJ6_bitCount_0f7a4 49 (.bipush 63) 2 51 := ⟨by decide +kernel, rfl⟩
theorem eJ6_bitCount_0f7a4_51 : DD cJ6_bitCount_0f7a4 51 (.iand) 1 52 := ⟨by decide +kernel, rfl⟩
theorem eJ6_bitCount_0f7a4_52 : decode cJ6_bitCount_0f7a4 52 = .ok (.ireturn, 1) := by decide +kernel
theorem eJ9_abs_067f4_0 : DD cJ9_abs_067f4 0 (.lload_n 0) 1 1 := ⟨by decide +kernel, rfl⟩
theorem eJ9_abs_067f4_1 : DD cJ9_abs_067f4 1 (.lconst 0) 1 2 := ⟨by decide +kernel, rfl⟩
theorem eJ9_abs_067f4_2 : DD cJ9_abs_067f4 2 (.lcmp) 1 3 := ⟨by decide +kernel, rfl⟩
theorem eJ9_abs_067f4_3 : DB cJ9_abs_067f4 3 (.ifCond .ge 8) (8) 6 11 := ⟨by decide +kernel, rfl, by decide⟩
theorem eJ9_abs_067f4_6 : DD cJ9_abs_067f4 6 (.lload_n 0) 1 7 := ⟨by decide +kernel, rfl⟩
theorem eJ9_abs_067f4_7 : DD cJ9_abs_067f4 7 (.lneg) 1 8 := ⟨by decide +kernel, rfl⟩
theorem eJ9_abs_067f4_8 : DB cJ9_abs_067f4 8 (.goto 4) (4) 11 12 := ⟨by decide +kernel, rfl, by decide⟩
theorem eJ9_abs_067f4_11 : DD cJ9_abs_067f4 11 (.lload_n 0) 1 12 := ⟨by decide +kernel, rfl⟩
theorem eJ9_abs_067f4_12 : decode cJ9_abs_067f4 12 = .ok (.lreturn, 1) := by decide +kernel
theorem eJ9_max_7cf53_0 : DD cJ9_max_7cf53 0 (.iload_n 0) 1 1 := ⟨by decide +kernel, rfl⟩
theorem eJ9_max_7cf53_1 : DD cJ9_max_7cf53 1 (.iload_n 1) 1 2 := ⟨by decide +kernel, rfl⟩
theorem eJ9_max_7cf53_2 : DB cJ9_max_7cf53 2 (.if_icmp .lt 7) (7) 5 9 := ⟨by decide +kernel, rfl, by decide⟩
theorem eJ9_max_7cf53_5 : DD cJ9_max_7cf53 5 (.iload_n 0) 1 6 := ⟨by decide +kernel, rfl⟩
theorem eJ9_max_7cf53_6 : DB cJ9_max_7cf53 6 (.goto 4) (4) 9 10 := ⟨by decide +kernel, rfl, by decide⟩
theorem eJ9_max_7cf53_9 : DD cJ9_max_7cf53 9 (.iload_n 1) 1 10 := ⟨by decide +kernel, rfl⟩
theorem eJ9_max_7cf53_10 : decode cJ9_max_7cf53 10 = .ok (.ireturn, 1) := by decide +kernel
theorem eJ9_min_7cf53_0 : DD cJ9_min_7cf53 0 (.iload_n 0) 1 1 := ⟨by decide +kernel, rfl⟩
theorem eJ9_min_7cf53_1 : DD cJ9_min_7cf53 1 (.iload_n 1) 1 2 := ⟨by decide +kernel, rfl⟩
theorem eJ9_min_7cf53_2 : DB cJ9_min_7cf53 2 (.if_icmp .gt 7) (7) 5 9 := ⟨by decide +kernel, rfl, by decide⟩
theorem eJ9_min_7cf53_5 : DD cJ9_min_7cf53 5 (.iload_n 0) 1 6 := ⟨by decide +kernel, rfl⟩
theorem eJ9_min_7cf53_6 : DB cJ9_min_7cf53 6 (.goto 4) (4) 9 10 := ⟨by decide +kernel, rfl, by decide⟩
theorem eJ9_min_7cf53_9 : DD cJ9_min_7cf53 9 (.iload_n 1) 1 10 := ⟨by decide +kernel, rfl⟩
theorem eJ9_min_7cf53_10 : decode cJ9_min_7cf53 10 = .ok (.ireturn, 1) := by decide +kernel
theorem eJ9_min_f86c9_0 : DD cJ9_min_f86c9 0 (.lload_n 0) 1 1 := ⟨by decide +kernel, rfl⟩
theorem eJ9_min_f86c9_1 : DD cJ9_min_f86c9 1 (.lload_n 2) 1 2 := ⟨by decide +kernel, rfl⟩
theorem eJ9_min_f86c9_2 : DD cJ9_min_f86c9 2 (.lcmp) 1 3 := ⟨by decide +kernel, rfl⟩
theorem eJ9_min_f86c9_3 : DB cJ9_min_f86c9 3 (.ifCond .gt 7) (7) 6 10 := ⟨by decide +kernel, rfl, by decide⟩
theorem eJ9_min_f86c9_6 : DD cJ9_min_f86c9 6 (.lload_n 0) 1 7 := ⟨by decide +kernel, rfl⟩
theorem eJ9_min_f86c9_7 : DB cJ9_min_f86c9 7 (.goto 4) (4) 10 11 := ⟨by decide +kernel, rfl, by decide⟩
theorem eJ9_min_f86c9_10 : DD cJ9_min_f86c9 10 (.lload_n 2) 1 11 := ⟨by decide +kernel, rfl⟩
theorem eJ9_min_f86c9_11 : decode cJ9_min_f86c9 11 = .ok (.lreturn, 1) := by decide +kernel
theorem eJ0_length_8abf5_0 : DD cJ0_length_8abf5 0 (.aload_n 0) 1 1 := ⟨by decide +kernel, rfl⟩
theorem eJ0_length_8abf5_1 : DD cJ0_length_8abf5 1 (.getfield 9) 3 4 := ⟨by decide +kernel, rfl⟩
theorem eJ0_length_8abf5_4 : DD cJ0_length_8abf5 4 (.arraylength) 1 5 := ⟨by decide +kernel, rfl⟩
theorem eJ0_length_8abf5_5 : DD cJ0_length_8abf5 5 (.aload_n 0) 1 6 := ⟨by decide +kernel, rfl⟩
theorem eJ0_length_8abf5_6 : DD cJ0_length_8abf5 6 (.invokevirtual 335) 3 9 := ⟨by decide +kernel, rfl⟩
theorem eJ0_length_8abf5_9 : DD cJ0_length_8abf5 9 (.ishr) 1 10 := ⟨by decide +kernel, rfl⟩
theorem eJ0_length_8abf5_10 : decode cJ0_length_8abf5 10 = .ok (.ireturn, 1) := by decide +kernel
theorem eJ0_charAt_5068e_0 : DD cJ0_charAt_5068e 0 (.aload_n 0) 1 1 := ⟨by decide +kernel, rfl⟩
theorem eJ0_charAt_5068e_1 : DD cJ0_charAt_5068e 1 (.invokevirtual 492) 3 4 := ⟨by decide +kernel, rfl⟩
theorem eJ0_charAt_5068e_4 : DB cJ0_charAt_5068e 4 (.ifCond .eq 12) (12) 7 16 := ⟨by decide +kernel, rfl, by decide⟩
theorem eJ0_charAt_5068e_7 : DD cJ0_charAt_5068e 7 (.aload_n 0) 1 8 := ⟨by decide +kernel, rfl⟩
theorem eJ0_charAt_5068e_8 : DD cJ0_charAt_5068e 8 (.getfield 9) 3 11 := ⟨by decide +kernel, rfl⟩
theorem eJ0_charAt_5068e_11 : DD cJ0_charAt_5068e 11 (.iload_n 1) 1 12 := ⟨by decide +kernel, rfl⟩
theorem eJ0_charAt_5068e_12 : DD cJ0_charAt_5068e 12 (.invokestatic 495) 3 15 := ⟨by decide +kernel, rfl⟩
theorem eJ0_charAt_5068e_15 : decode cJ0_charAt_5068e 15 = .ok (.ireturn, 1) := by decide +kernel
theorem eJ0_charAt_5068e_16 : DD cJ0_charAt_5068e 16 (.aload_n 0) 1 17 := ⟨by decide +kernel, rfl⟩
theorem eJ0_charAt_5068e_17 : DD cJ0_charAt_5068e 17 (.getfield 9) 3 20 := ⟨by decide +kernel, rfl⟩
theorem eJ0_charAt_5068e_20 : DD cJ0_charAt_5068e 20 (.iload_n 1) 1 21 := ⟨by decide +kernel, rfl⟩
theorem eJ0_charAt_5068e_21 : DD cJ0_charAt_5068e 21 (.invokestatic 498) 3 24 := ⟨by decide +kernel, rfl⟩
theorem eJ0_charAt_5068e_24 : decode cJ0_charAt_5068e 24 = .ok (.ireturn, 1) := by decide +kernel
theorem eJ0_indexOf_0f7a4_0 : DD cJ0_indexOf_0f7a4 0 (.aload_n 0) 1 1 := ⟨by decide +kernel, rfl⟩
theorem eJ0_indexOf_0f7a4_1 : DD cJ0_indexOf_0f7a4 1 (.iload_n 1) 1 2 := ⟨by decide +kernel, rfl⟩
theorem eJ0_indexOf_0f7a4_2 : DD cJ0_indexOf_0f7a4 2 (.iconst 0) 1 3 := ⟨by decide +kernel, rfl⟩
theorem eJ0_indexOf_0f7a4_3 : DD cJ0_indexOf_0f7a4 3 (.invokevirtual 633) 3 6 := ⟨by decide +kernel, rfl⟩
theorem eJ0_indexOf_0f7a4_6 : decode cJ0_indexOf_0f7a4 6 = .ok (.ireturn, 1) := by decide +kernel
theorem eJ0_indexOf_7cf53_0 : DD cJ0_indexOf_7cf53 0 (.aload_n 0) 1 1 := ⟨by decide +kernel, rfl⟩
theorem eJ0_indexOf_7cf53_1 : DD cJ0_indexOf_7cf53 1 (.invokevirtual 492) 3 4 := ⟨by decide +kernel, rfl⟩
theorem eJ0_indexOf_7cf53_4 : DB cJ0_indexOf_7cf53 4 (.ifCond .eq 19) (19) 7 23 := ⟨by decide +kernel, rfl, by decide⟩
theorem eJ0_indexOf_7cf53_7 : DD cJ0_indexOf_7cf53 7 (.aload_n 0) 1 8 := ⟨by decide +kernel, rfl⟩
theorem eJ0_indexOf_7cf53_8 : DD cJ0_indexOf_7cf53 8 (.getfield 9) 3 11 := ⟨by decide +kernel, rfl⟩
theorem eJ0_indexOf_7cf53_11 : DD cJ0_indexOf_7cf53 11 (.iload_n 1) 1 12 := ⟨by decide +kernel, rfl⟩
theorem eJ0_indexOf_7cf53_12 : DD cJ0_indexOf_7cf53 12 (.iload_n 2) 1 13 := ⟨by decide +kernel, rfl⟩
theorem eJ0_indexOf_7cf53_13 : DD cJ0_indexOf_7cf53 13 (.aload_n 0) 1 14 := ⟨by decide +kernel, rfl⟩
theorem eJ0_indexOf_7cf53_14 : DD cJ0_indexOf_7cf53 14 (.invokevirtual 505) 3 17 := ⟨by decide +kernel, rfl⟩
theorem eJ0_indexOf_7cf53_17 : DD cJ0_indexOf_7cf53 17 (.invokestatic 637) 3 20 := ⟨by decide +kernel, rfl⟩
theorem eJ0_indexOf_7cf53_20 : DB cJ0_indexOf_7cf53 20 (.goto 16) (16) 23 36 := ⟨by decide +kernel, rfl, by decide⟩
theorem eJ0_indexOf_7cf53_23 : DD cJ0_indexOf_7cf53 23 (.aload_n 0) 1 24 := ⟨by decide +kernel, rfl⟩
theorem eJ0_indexOf_7cf53_24 : DD cJ0_indexOf_7cf53 24 (.getfield 9) 3 27 := ⟨by decide +kernel, rfl⟩
theorem eJ0_indexOf_7cf53_27 : DD cJ0_indexOf_7cf53 27 (.iload_n 1) 1 28 := ⟨by decide +kernel, rfl⟩
theorem eJ0_indexOf_7cf53_28 : DD cJ0_indexOf_7cf53 28 (.iload_n 2) 1 29 := ⟨by decide +kernel, rfl⟩
theorem eJ0_indexOf_7cf53_29 : DD cJ0_indexOf_7cf53 29 (.aload_n 0) 1 30 := ⟨by decide +kernel, rfl⟩
theorem eJ0_indexOf_7cf53_30 : DD cJ0_indexOf_7cf53 30 (.invokevirtual 505) 3 33 := ⟨by decide +kernel, rfl⟩
theorem eJ0_indexOf_7cf53_33 : DD cJ0_indexOf_7cf53 33 (.invokestatic 640) 3 36 := ⟨by decide +kernel, rfl⟩
theorem eJ0_indexOf_7cf53_36 : decode cJ0_indexOf_7cf53 36 = .ok (.ireturn, 1) := by decide +kernel
theorem eJ0_coder_7d493_0 : DD cJ0_coder_7d493 0 (.getstatic 38) 3 3 := ⟨by decide +kernel, rfl⟩
theorem eJ0_coder_7d493_3 : DB cJ0_coder_7d493 3 (.ifCond .eq 10) (10) 6 13 := ⟨by decide +kernel, rfl, by decide⟩
theorem eJ0_coder_7d493_6 : DD cJ0_coder_7d493 6 (.aload_n 0) 1 7 := ⟨by decide +kernel, rfl⟩
theorem eJ0_coder_7d493_7 : DD cJ0_coder_7d493 7 (.getfield 15) 3 10 := ⟨by decide +kernel, rfl⟩
theorem eJ0_coder_7d493_10 : DB cJ0_coder_7d493 10 (.goto 4) (4) 13 14 := ⟨by decide +kernel, rfl, by decide⟩
theorem eJ0_coder_7d493_13 : DD cJ0_coder_7d493 13 (.iconst 1) 1 14 := ⟨by decide +kernel, rfl⟩
theorem eJ0_coder_7d493_14 : decode cJ0_coder_7d493 14 = .ok (.ireturn, 1) := by decide +kernel
theorem eJ0_isLatin1_aae02_0 : DD cJ0_isLatin1_aae02 0 (.getstatic 38) 3 3 := ⟨by decide +kernel, rfl⟩
theorem eJ0_isLatin1_aae02_3 : DB cJ0_isLatin1_aae02 3 (.ifCond .eq 14) (14) 6 17 := ⟨by decide +kernel, rfl, by decide⟩
theorem eJ0_isLatin1_aae02_6 : DD cJ0_isLatin1_aae02 6 (.aload_n 0) 1 7 := ⟨by decide +kernel, rfl⟩
theorem eJ0_isLatin1_aae02_7 : DD cJ0_isLatin1_aae02 7 (.getfield 15) 3 10 := ⟨by decide +kernel, rfl⟩
theorem eJ0_isLatin1_aae02_10 : DB cJ0_isLatin1_aae02 10 (.ifCond .ne 7) (7) 13 17 := ⟨by decide +kernel, rfl, by decide⟩
theorem eJ0_isLatin1_aae02_13 : DD cJ0_isLatin1_aae02 13 (.iconst 1) 1 14 := ⟨by decide +kernel, rfl⟩
theorem eJ0_isLatin1_aae02_14 : DB cJ0_isLatin1_aae02 14 (.goto 4) (4) 17 18 := ⟨by decide +kernel, rfl, by decide⟩
theorem eJ0_isLatin1_aae02_17 : DD cJ0_isLatin1_aae02 17 (.iconst 0) 1 18 := ⟨by decide +kernel, rfl⟩
theorem eJ0_isLatin1_aae02_18 : decode cJ0_isLatin1_aae02 18 = .ok (.ireturn, 1) := by decide +kernel
theorem eJ0_checkIndex_df160_0 : DD cJ0_checkIndex_df160 0 (.iload_n 0) 1 1 := ⟨by decide +kernel, rfl⟩
theorem eJ0_checkIndex_df160_1 : DD cJ0_checkIndex_df160 1 (.iload_n 1) 1 2 := ⟨by decide +kernel, rfl⟩
theorem eJ0_checkIndex_df160_2 : DD cJ0_checkIndex_df160 2 (.getstatic 1053) 3 5 := ⟨by decide +kernel, rfl⟩
theorem eJ0_checkIndex_df160_5 : DD cJ0_checkIndex_df160 5 (.invokestatic 1059) 3 8 := ⟨by decide +kernel, rfl⟩
theorem eJ0_checkIndex_df160_8 : DD cJ0_checkIndex_df160 8 (.pop) 1 9 := ⟨by decide +kernel, rfl⟩
theorem eJ0_checkIndex_df160_9 : decode cJ0_checkIndex_df160 9 = .ok (.return_, 1) := by decide +kernel
theorem eJ0_checkBoundsBeginEnd_23922_0 : DD cJ0_checkBoundsBeginEnd_23922 0 (.iload_n 0) 1 1 := ⟨by decide +kernel, rfl⟩
theorem eJ0_checkBoundsBeginEnd_23922_1 : DD cJ0_checkBoundsBeginEnd_23922 1 (.iload_n 1) 1 2 := ⟨by decide +kernel, rfl⟩
theorem eJ0_checkBoundsBeginEnd_23922_2 : DD cJ0_checkBoundsBeginEnd_23922 2 (.iload_n 2) 1 3 := ⟨by decide +kernel, rfl⟩
theorem eJ0_checkBoundsBeginEnd_23922_3 : DD cJ0_checkBoundsBeginEnd_23922 3 (.getstatic 1053) 3 6 := ⟨by decide +kernel, rfl⟩
theorem eJ0_checkBoundsBeginEnd_23922_6 : DD cJ0_checkBoundsBeginEnd_23922 6 (.invokestatic 1062) 3 9 := ⟨by decide +kernel, rfl⟩
theorem eJ0_checkBoundsBeginEnd_23922_9 : DD cJ0_checkBoundsBeginEnd_23922 9 (.pop) 1 10 := ⟨by decide +kernel, rfl⟩
theorem eJ0_checkBoundsBeginEnd_23922_10 : decode cJ0_checkBoundsBeginEnd_23922 10 = .ok (.return_, 1) := by decide +kernel
theorem eJ1_charAt_3b067_0 : DD cJ1_charAt_3b067 0 (.iload_n 1) 1 1 := ⟨by decide +kernel, rfl⟩
theorem eJ1_charAt_3b067_1 : DD cJ1_charAt_3b067 1 (.aload_n 0) 1 2 := ⟨by decide +kernel, rfl⟩
theorem eJ1_charAt_3b067_2 : DD cJ1_charAt_3b067 2 (.arraylength) 1 3 := ⟨by decide +kernel, rfl⟩
theorem eJ1_charAt_3b067_3 : DD cJ1_charAt_3b067 3 (.invokestatic 9) 3 6 := ⟨by decide +kernel, rfl⟩
theorem eJ1_charAt_3b067_6 : DD cJ1_charAt_3b067 6 (.aload_n 0) 1 7 := ⟨by decide +kernel, rfl⟩
theorem eJ1_charAt_3b067_7 : DD cJ1_charAt_3b067 7 (.iload_n 1) 1 8 := ⟨by decide +kernel, rfl⟩
theorem eJ1_charAt_3b067_8 : DD cJ1_charAt_3b067 8 (.baload) 1 9 := ⟨by decide +kernel, rfl⟩
theorem eJ1_charAt_3b067_9 : DD cJ1_charAt_3b067 9 (.sipush 255) 3 12 := ⟨by decide +kernel, rfl⟩
theorem eJ1_charAt_3b067_12 : DD cJ1_charAt_3b067 12 (.iand) 1 13 := ⟨by decide +kernel, rfl⟩
theorem eJ1_charAt_3b067_13 : DD cJ1_charAt_3b067 13 (.i2c) 1 14 := ⟨by decide +kernel, rfl⟩
theorem eJ1_charAt_3b067_14 : decode cJ1_charAt_3b067 14 = .ok (.ireturn, 1) := by decide +kernel
theorem eJ1_canEncode_9a6ad_0 : DD cJ1_canEncode_9a6ad 0 (.iload_n 0) 1 1 := ⟨by decide +kernel, rfl⟩
theorem eJ1_canEncode_9a6ad_1 : DB cJ1_canEncode_9a6ad 1 (.ifCond .lt 14) (14) 4 15 := ⟨by decide +kernel, rfl, by decide⟩
theorem eJ1_canEncode_9a6ad_4 : DD cJ1_canEncode_9a6ad 4 (.iload_n 0) 1 5 := ⟨by decide +kernel, rfl⟩
theorem eJ1_canEncode_9a6ad_5 : DD cJ1_canEncode_9a6ad 5 (.sipush 255) 3 8 := ⟨by decide +kernel, rfl⟩
theorem eJ1_canEncode_9a6ad_8 : DB cJ1_canEncode_9a6ad 8 (.if_icmp .gt 7) (7) 11 15 := ⟨by decide +kernel, rfl, by decide⟩
theorem eJ1_canEncode_9a6ad_11 : DD cJ1_canEncode_9a6ad 11 (.iconst 1) 1 12 := ⟨by decide +kernel, rfl⟩
theorem eJ1_canEncode_9a6ad_12 : DB cJ1_canEncode_9a6ad 12 (.goto 4) (4) 15 16 := ⟨by decide +kernel, rfl, by decide⟩
theorem eJ1_canEncode_9a6ad_15 : DD cJ1_canEncode_9a6ad 15 (.iconst 0) 1 16 := ⟨by decide +kernel, rfl⟩
theorem eJ1_canEncode_9a6ad_16 : decode cJ1_canEncode_9a6ad 16 = .ok (.ireturn, 1) := by decide +kernel
theorem eJ1_indexOf_4cfef_0 : DD cJ1_indexOf_4cfef 0 (.iload_n 1) 1 1 := ⟨by decide +kernel, rfl⟩
theorem eJ1_indexOf_4cfef_1 : DD cJ1_indexOf_4cfef 1 (.invokestatic 88) 3 4 := ⟨by decide +kernel, rfl⟩
theorem eJ1_indexOf_4cfef_4 : DB cJ1_indexOf_4cfef 4 (.ifCond .ne 5) (5) 7 9 := ⟨by decide +kernel, rfl, by decide⟩
theorem eJ1_indexOf_4cfef_7 : DD cJ1_indexOf_4cfef 7 (.iconst (-1)) 1 8 := ⟨by decide +kernel, rfl⟩
theorem eJ1_indexOf_4cfef_8 : decode cJ1_indexOf_4cfef 8 = .ok (.ireturn, 1) := by decide +kernel
theorem eJ1_indexOf_4cfef_9 : DD cJ1_indexOf_4cfef 9 (.iload_n 2) 1 10 := ⟨by decide +kernel, rfl⟩
theorem eJ1_indexOf_4cfef_10 : DD cJ1_indexOf_4cfef 10 (.iconst 0) 1 11 := ⟨by decide +kernel, rfl⟩
theorem eJ1_indexOf_4cfef_11 : DD cJ1_indexOf_4cfef 11 (.invokestatic 92) 3 14 := ⟨by decide +kernel, rfl⟩
theorem eJ1_indexOf_4cfef_14 : DD cJ1_indexOf_4cfef 14 (.istore_n 2) 1 15 := ⟨by decide +kernel, rfl⟩
theorem eJ1_indexOf_4cfef_15 : DD cJ1_indexOf_4cfef 15 (.iload_n 3) 1 16 := ⟨by decide +kernel, rfl⟩
theorem eJ1_indexOf_4cfef_16 : DD cJ1_indexOf_4cfef 16 (.aload_n 0) 1 17 := ⟨by decide +kernel, rfl⟩
theorem eJ1_indexOf_4cfef_17 : DD cJ1_indexOf_4cfef 17 (.arraylength) 1 18 := ⟨by decide +kernel, rfl⟩
theorem eJ1_indexOf_4cfef_18 : DD cJ1_indexOf_4cfef 18 (.invokestatic 38) 3 21 := ⟨by decide +kernel, rfl⟩
theorem eJ1_indexOf_4cfef_21 : DD cJ1_indexOf_4cfef 21 (.istore_n 3) 1 22 := ⟨by decide +kernel, rfl⟩
theorem eJ1_indexOf_4cfef_22 : DD cJ1_indexOf_4cfef 22 (.iload_n 2) 1 23 := ⟨by decide +kernel, rfl⟩
theorem eJ1_indexOf_4cfef_23 : DD cJ1_indexOf_4cfef 23 (.iload_n 3) 1 24 := ⟨by decide +kernel, rfl⟩
theorem eJ1_indexOf_4cfef_24 : DB cJ1_indexOf_4cfef 24 (.if_icmp .lt 5) (5) 27 29 := ⟨by decide +kernel, rfl, by decide⟩
theorem eJ1_indexOf_4cfef_27 : DD cJ1_indexOf_4cfef 27 (.iconst (-1)) 1 28 := ⟨by decide +kernel, rfl⟩
theorem eJ1_indexOf_4cfef_28 : decode cJ1_indexOf_4cfef 28 = .ok (.ireturn, 1) := by decide +kernel
theorem eJ1_indexOf_4cfef_29 : DD cJ1_indexOf_4cfef 29 (.aload_n 0) 1 30 := ⟨by decide +kernel, rfl⟩
theorem eJ1_indexOf_4cfef_30 : DD cJ1_indexOf_4cfef 30 (.iload_n 1) 1 31 := ⟨by decide +kernel, rfl⟩
theorem eJ1_indexOf_4cfef_31 : DD cJ1_indexOf_4cfef 31 (.iload_n 2) 1 32 := ⟨by decide +kernel, rfl⟩
theorem eJ1_indexOf_4cfef_32 : DD cJ1_indexOf_4cfef 32 (.iload_n 3) 1 33 := ⟨by decide +kernel, rfl⟩
theorem eJ1_indexOf_4cfef_33 : DD cJ1_indexOf_4cfef 33 (.invokestatic 95) 3 36 := ⟨by decide +kernel, rfl⟩
theorem eJ1_indexOf_4cfef_36 : decode cJ1_indexOf_4cfef 36 = .ok (.ireturn, 1) := by decide +kernel
theorem eJ1_indexOfChar_4cfef_0 : DD cJ1_indexOfChar_4cfef 0 (.iload_n 1) 1 1 := ⟨by decide +kernel, rfl⟩
theorem eJ1_indexOfChar_4cfef_1 : DD cJ1_indexOfChar_4cfef 1 (.i2b) 1 2 := ⟨by decide +kernel, rfl⟩
theorem eJ1_indexOfChar_4cfef_2 : DD cJ1_indexOfChar_4cfef 2 (.istore 4) 2 4 := ⟨by decide +kernel, rfl⟩
theorem eJ1_indexOfChar_4cfef_4 : DD cJ1_indexOfChar_4cfef 4 (.iload_n 2) 1 5 := ⟨by decide +kernel, rfl⟩
theorem eJ1_indexOfChar_4cfef_5 : DD cJ1_indexOfChar_4cfef 5 (.istore 5) 2 7 := ⟨by decide +kernel, rfl⟩
theorem eJ1_indexOfChar_4cfef_7 : DD cJ1_indexOfChar_4cfef 7 (.iload 5) 2 9 := ⟨by decide +kernel, rfl⟩
theorem eJ1_indexOfChar_4cfef_9 : DD cJ1_indexOfChar_4cfef 9 (.iload_n 3) 1 10 := ⟨by decide +kernel, rfl⟩
theorem eJ1_indexOfChar_4cfef_10 : DB cJ1_indexOfChar_4cfef 10 (.if_icmp .ge 21) (21) 13 31 := ⟨by decide +kernel, rfl, by decide⟩
theorem eJ1_indexOfChar_4cfef_13 : DD cJ1_indexOfChar_4cfef 13 (.aload_n 0) 1 14 := ⟨by decide +kernel, rfl⟩
theorem eJ1_indexOfChar_4cfef_14 : DD cJ1_indexOfChar_4cfef 14 (.iload 5) 2 16 := ⟨by decide +kernel, rfl⟩
theorem eJ1_indexOfChar_4cfef_16 : DD cJ1_indexOfChar_4cfef 16 (.baload) 1 17 := ⟨by decide +kernel, rfl⟩
theorem eJ1_indexOfChar_4cfef_17 : DD cJ1_indexOfChar_4cfef 17 (.iload 4) 2 19 := ⟨by decide +kernel, rfl⟩
theorem eJ1_indexOfChar_4cfef_19 : DB cJ1_indexOfChar_4cfef 19 (.if_icmp .ne 6) (6) 22 25 := ⟨by decide +kernel, rfl, by decide⟩
theorem eJ1_indexOfChar_4cfef_22 : DD cJ1_indexOfChar_4cfef 22 (.iload 5) 2 24 := ⟨by decide +kernel, rfl⟩
theorem eJ1_indexOfChar_4cfef_24 : decode cJ1_indexOfChar_4cfef 24 = .ok (.ireturn, 1) := by decide +kernel
theorem eJ1_indexOfChar_4cfef_25 : DD cJ1_indexOfChar_4cfef 25 (.iinc 5 1) 3 28 := ⟨by decide +kernel, rfl⟩
theorem eJ1_indexOfChar_4cfef_28 : DB cJ1_indexOfChar_4cfef 28 (.goto (-21)) (-21) 31 7 := ⟨by decide +kernel, rfl, by decide⟩
theorem eJ1_indexOfChar_4cfef_31 : DD cJ1_indexOfChar_4cfef 31 (.iconst (-1)) 1 32 := ⟨by decide +kernel, rfl⟩
theorem eJ1_indexOfChar_4cfef_32 : decode cJ1_indexOfChar_4cfef 32 = .ok (.ireturn, 1) := by decide +kernel
theorem eJ2_getChar_3b067_0 : DD cJ2_getChar_3b067 0 (.getstatic 44) 3 3 := ⟨by decide +kernel, rfl⟩
theorem eJ2_getChar_3b067_3 : DB cJ2_getChar_3b067 3 (.ifCond .ne 25) (25) 6 28 := ⟨by decide +kernel, rfl, by decide⟩
theorem eJ2_getChar_3b067_6 : DD cJ2_getChar_3b067 6 (.iload_n 1) 1 7 := ⟨by decide +kernel, rfl⟩
theorem eJ2_getChar_3b067_7 : DB cJ2_getChar_3b067 7 (.ifCond .lt 11) (11) 10 18 := ⟨by decide +kernel, rfl, by decide⟩
theorem eJ2_getChar_3b067_10 : DD cJ2_getChar_3b067 10 (.iload_n 1) 1 11 := ⟨by decide +kernel, rfl⟩
theorem eJ2_getChar_3b067_11 : DD cJ2_getChar_3b067 11 (.aload_n 0) 1 12 := ⟨by decide +kernel, rfl⟩
theorem eJ2_getChar_3b067_12 : DD cJ2_getChar_3b067 12 (.invokestatic 48) 3 15 := ⟨by decide +kernel, rfl⟩
theorem eJ2_getChar_3b067_15 : DB cJ2_getChar_3b067 15 (.if_icmp .lt 13) (13) 18 28 := ⟨by decide +kernel, rfl, by decide⟩
theorem eJ2_getChar_3b067_18 : DD cJ2_getChar_3b067 18 (.new 52) 3 21 := ⟨by decide +kernel, rfl⟩
theorem eJ2_getChar_3b067_21 : DD cJ2_getChar_3b067 21 (.dup) 1 22 := ⟨by decide +kernel, rfl⟩
theorem eJ2_getChar_3b067_22 : DD cJ2_getChar_3b067 22 (.ldc 54) 2 24 := ⟨by decide +kernel, rfl⟩
theorem eJ2_getChar_3b067_24 : DD cJ2_getChar_3b067 24 (.invokespecial 56) 3 27 := ⟨by decide +kernel, rfl⟩
theorem eJ2_getChar_3b067_27 : decode cJ2_getChar_3b067 27 = .ok (.athrow, 1) := by decide +kernel
theorem eJ2_getChar_3b067_28 : DD cJ2_getChar_3b067 28 (.iload_n 1) 1 29 := ⟨by decide +kernel, rfl⟩
theorem eJ2_getChar_3b067_29 : DD cJ2_getChar_3b067 29 (.iconst 1) 1 30 := ⟨by decide +kernel, rfl⟩
theorem eJ2_getChar_3b067_30 : DD cJ2_getChar_3b067 30 (.ishl) 1 31 := ⟨by decide +kernel, rfl⟩
theorem eJ2_getChar_3b067_31 : DD cJ2_getChar_3b067 31 (.istore_n 1) 1 32 := ⟨by decide +kernel, rfl⟩
theorem eJ2_getChar_3b067_32 : DD cJ2_getChar_3b067 32 (.aload_n 0) 1 33 := ⟨by decide +kernel, rfl⟩
theorem eJ2_getChar_3b067_33 : DD cJ2_getChar_3b067 33 (.iload_n 1) 1 34 := ⟨by decide +kernel, rfl⟩
theorem eJ2_getChar_3b067_34 : DD cJ2_getChar_3b067 34 (.iinc 1 1) 3 37 := ⟨by decide +kernel, rfl⟩
theorem eJ2_getChar_3b067_37 : DD cJ2_getChar_3b067 37 (.baload) 1 38 := ⟨by decide +kernel, rfl⟩
theorem eJ2_getChar_3b067_38 : DD cJ2_getChar_3b067 38 (.sipush 255) 3 41 := ⟨by decide +kernel, rfl⟩
theorem eJ2_getChar_3b067_41 : DD cJ2_getChar_3b067 41 (.iand) 1 42 := ⟨by decide +kernel, rfl⟩
theorem eJ2_getChar_3b067_42 : DD cJ2_getChar_3b067 42 (.getstatic 59) 3 45 := ⟨by decide +kernel, rfl⟩
theorem eJ2_getChar_3b067_45 : DD cJ2_getChar_3b067 45 (.ishl) 1 46 := ⟨by decide +kernel, rfl⟩
theorem eJ2_getChar_3b067_46 : DD cJ2_getChar_3b067 46 (.aload_n 0) 1 47 := ⟨by decide +kernel, rfl⟩
theorem eJ2_getChar_3b067_47 : DD cJ2_getChar_3b067 47 (.iload_n 1) 1 48 := ⟨by decide +kernel, rfl⟩
theorem eJ2_getChar_3b067_48 : DD cJ2_getChar_3b067 48 (.baload) 1 49 := ⟨by decide +kernel, rfl⟩
theorem eJ2_getChar_3b067_49 : DD cJ2_getChar_3b067 49 (.sipush 255) 3 52 := ⟨by decide +kernel, rfl⟩
theorem eJ2_getChar_3b067_52 : DD cJ2_getChar_3b067 52 (.iand) 1 53 := ⟨by decide +kernel, rfl⟩
theorem eJ2_getChar_3b067_53 : DD cJ2_getChar_3b067 53 (.getstatic 63) 3 56 := ⟨by decide +kernel, rfl⟩
theorem eJ2_getChar_3b067_56 : DD cJ2_getChar_3b067 56 (.ishl) 1 57 := ⟨by decide +kernel, rfl⟩
theorem eJ2_getChar_3b067_57 : DD cJ2_getChar_3b067 57 (.ior) 1 58 := ⟨by decide +kernel, rfl⟩
theorem eJ2_getChar_3b067_58 : DD cJ2_getChar_3b067 58 (.i2c) 1 59 := ⟨by decide +kernel, rfl⟩
theorem eJ2_getChar_3b067_59 : decode cJ2_getChar_3b067 59 = .ok (.ireturn, 1) := by decide +kernel
theorem eJ2_length_9d52b_0 : DD cJ2_length_9d52b 0 (.aload_n 0) 1 1 := ⟨by decide +kernel, rfl⟩
theorem eJ2_length_9d52b_1 : DD cJ2_length_9d52b 1 (.arraylength) 1 2 := ⟨by decide +kernel, rfl⟩
theorem eJ2_length_9d52b_2 : DD cJ2_length_9d52b 2 (.iconst 1) 1 3 := ⟨by decide +kernel, rfl⟩
theorem eJ2_length_9d52b_3 : DD cJ2_length_9d52b 3 (.ishr) 1 4 := ⟨by decide +kernel, rfl⟩
theorem eJ2_length_9d52b_4 : decode cJ2_length_9d52b 4 = .ok (.ireturn, 1) := by decide +kernel
theorem eJ2_indexOf_4cfef_0 : DD cJ2_indexOf_4cfef 0 (.iload_n 2) 1 1 := ⟨by decide +kernel, rfl⟩
theorem eJ2_indexOf_4cfef_1 : DD cJ2_indexOf_4cfef 1 (.iconst 0) 1 2 := ⟨by decide +kernel, rfl⟩
theorem eJ2_indexOf_4cfef_2 : DD cJ2_indexOf_4cfef 2 (.invokestatic 224) 3 5 := ⟨by decide +kernel, rfl⟩
theorem eJ2_indexOf_4cfef_5 : DD cJ2_indexOf_4cfef 5 (.istore_n 2) 1 6 := ⟨by decide +kernel, rfl⟩
theorem eJ2_indexOf_4cfef_6 : DD cJ2_indexOf_4cfef 6 (.iload_n 3) 1 7 := ⟨by decide +kernel, rfl⟩
theorem eJ2_indexOf_4cfef_7 : DD cJ2_indexOf_4cfef 7 (.aload_n 0) 1 8 := ⟨by decide +kernel, rfl⟩
theorem eJ2_indexOf_4cfef_8 : DD cJ2_indexOf_4cfef 8 (.arraylength) 1 9 := ⟨by decide +kernel, rfl⟩
theorem eJ2_indexOf_4cfef_9 : DD cJ2_indexOf_4cfef 9 (.iconst 1) 1 10 := ⟨by decide +kernel, rfl⟩
theorem eJ2_indexOf_4cfef_10 : DD cJ2_indexOf_4cfef 10 (.ishr) 1 11 := ⟨by decide +kernel, rfl⟩
theorem eJ2_indexOf_4cfef_11 : DD cJ2_indexOf_4cfef 11 (.invokestatic 183) 3 14 := ⟨by decide +kernel, rfl⟩
theorem eJ2_indexOf_4cfef_14 : DD cJ2_indexOf_4cfef 14 (.istore_n 3) 1 15 := ⟨by decide +kernel, rfl⟩
theorem eJ2_indexOf_4cfef_15 : DD cJ2_indexOf_4cfef 15 (.iload_n 2) 1 16 := ⟨by decide +kernel, rfl⟩
theorem eJ2_indexOf_4cfef_16 : DD cJ2_indexOf_4cfef 16 (.iload_n 3) 1 17 := ⟨by decide +kernel, rfl⟩
theorem eJ2_indexOf_4cfef_17 : DB cJ2_indexOf_4cfef 17 (.if_icmp .lt 5) (5) 20 22 := ⟨by decide +kernel, rfl, by decide⟩
theorem eJ2_indexOf_4cfef_20 : DD cJ2_indexOf_4cfef 20 (.iconst (-1)) 1 21 := ⟨by decide +kernel, rfl⟩
theorem eJ2_indexOf_4cfef_21 : decode cJ2_indexOf_4cfef 21 = .ok (.ireturn, 1) := by decide +kernel
theorem eJ2_indexOf_4cfef_22 : DD cJ2_indexOf_4cfef 22 (.iload_n 1) 1 23 := ⟨by decide +kernel, rfl⟩
theorem eJ2_indexOf_4cfef_23 : DD cJ2_indexOf_4cfef 23 (.ldc 227) 2 25 := ⟨by decide +kernel, rfl⟩
theorem eJ2_indexOf_4cfef_25 : DB cJ2_indexOf_4cfef 25 (.if_icmp .ge 11) (11) 28 36 := ⟨by decide +kernel, rfl, by decide⟩
theorem eJ2_indexOf_4cfef_28 : DD cJ2_indexOf_4cfef 28 (.aload_n 0) 1 29 := ⟨by decide +kernel, rfl⟩
theorem eJ2_indexOf_4cfef_29 : DD cJ2_indexOf_4cfef 29 (.iload_n 1) 1 30 := ⟨by decide +kernel, rfl⟩
theorem eJ2_indexOf_4cfef_30 : DD cJ2_indexOf_4cfef 30 (.iload_n 2) 1 31 := ⟨by decide +kernel, rfl⟩
theorem eJ2_indexOf_4cfef_31 : DD cJ2_indexOf_4cfef 31 (.iload_n 3) 1 32 := ⟨by decide +kernel, rfl⟩
theorem eJ2_indexOf_4cfef_32 : DD cJ2_indexOf_4cfef 32 (.invokestatic 228) 3 35 := ⟨by decide +kernel, rfl⟩
theorem eJ2_indexOf_4cfef_35 : decode cJ2_indexOf_4cfef 35 = .ok (.ireturn, 1) := by decide +kernel
theorem eJ2_indexOf_4cfef_36 : DD cJ2_indexOf_4cfef 36 (.aload_n 0) 1 37 := ⟨by decide +kernel, rfl⟩
theorem eJ2_indexOf_4cfef_37 : DD cJ2_indexOf_4cfef 37 (.iload_n 1) 1 38 := ⟨by decide +kernel, rfl⟩
theorem eJ2_indexOf_4cfef_38 : DD cJ2_indexOf_4cfef 38 (.iload_n 2) 1 39 := ⟨by decide +kernel, rfl⟩
theorem eJ2_indexOf_4cfef_39 : DD cJ2_indexOf_4cfef 39 (.iload_n 3) 1 40 := ⟨by decide +kernel, rfl⟩
theorem eJ2_indexOf_4cfef_40 : DD cJ2_indexOf_4cfef 40 (.invokestatic 232) 3 43 := ⟨by decide +kernel, rfl⟩
theorem eJ2_indexOf_4cfef_43 : decode cJ2_indexOf_4cfef 43 = .ok (.ireturn, 1) := by decide +kernel
theorem eJ2_indexOfChar_4cfef_0 : DD cJ2_indexOfChar_4cfef 0 (.iload_n 2) 1 1 := ⟨by decide +kernel, rfl⟩
theorem eJ2_indexOfChar_4cfef_1 : DD cJ2_indexOfChar_4cfef 1 (.iload_n 3) 1 2 := ⟨by decide +kernel, rfl⟩
theorem eJ2_indexOfChar_4cfef_2 : DD cJ2_indexOfChar_4cfef 2 (.aload_n 0) 1 3 := ⟨by decide +kernel, rfl⟩
theorem eJ2_indexOfChar_4cfef_3 : DD cJ2_indexOfChar_4cfef 3 (.invokestatic 96) 3 6 := ⟨by decide +kernel, rfl⟩
theorem eJ2_indexOfChar_4cfef_6 : DD cJ2_indexOfChar_4cfef 6 (.aload_n 0) 1 7 := ⟨by decide +kernel, rfl⟩
theorem eJ2_indexOfChar_4cfef_7 : DD cJ2_indexOfChar_4cfef 7 (.iload_n 1) 1 8 := ⟨by decide +kernel, rfl⟩
theorem eJ2_indexOfChar_4cfef_8 : DD cJ2_indexOfChar_4cfef 8 (.iload_n 2) 1 9 := ⟨by decide +kernel, rfl⟩
theorem eJ2_indexOfChar_4cfef_9 : DD cJ2_indexOfChar_4cfef 9 (.iload_n 3) 1 10 := ⟨by decide +kernel, rfl⟩
theorem eJ2_indexOfChar_4cfef_10 : DD cJ2_indexOfChar_4cfef 10 (.invokestatic 244) 3 13 := ⟨by decide +kernel, rfl⟩
theorem eJ2_indexOfChar_4cfef_13 : decode cJ2_indexOfChar_4cfef 13 = .ok (.ireturn, 1) := by decide +kernel
theorem eJ2_indexOfCharUnsafe_4cfef_0 : DD cJ2_indexOfCharUnsafe_4cfef 0 (.iload_n 2) 1 1 := ⟨by decide +kernel, rfl⟩
theorem eJ2_indexOfCharUnsafe_4cfef_1 : DD cJ2_indexOfCharUnsafe_4cfef 1 (.istore 4) 2 3 := ⟨by decide +kernel, rfl⟩
theorem eJ2_indexOfCharUnsafe_4cfef_3 : DD cJ2_indexOfCharUnsafe_4cfef 3 (.iload 4) 2 5 := ⟨by decide +kernel, rfl⟩
theorem eJ2_indexOfCharUnsafe_4cfef_5 : DD cJ2_indexOfCharUnsafe_4cfef 5 (.iload_n 3) 1 6 := ⟨by decide +kernel, rfl⟩
theorem eJ2_indexOfCharUnsafe_4cfef_6 : DB cJ2_indexOfCharUnsafe_4cfef 6 (.if_icmp .ge 22) (22) 9 28 := ⟨by decide +kernel, rfl, by decide⟩
theorem eJ2_indexOfCharUnsafe_4cfef_9 : DD cJ2_indexOfCharUnsafe_4cfef 9 (.aload_n 0) 1 10 := ⟨by decide +kernel, rfl⟩
theorem eJ2_indexOfCharUnsafe_4cfef_10 : DD cJ2_indexOfCharUnsafe_4cfef 10 (.iload 4) 2 12 := ⟨by decide +kernel, rfl⟩
theorem eJ2_indexOfCharUnsafe_4cfef_12 : DD cJ2_indexOfCharUnsafe_4cfef 12 (.invokestatic 71) 3 15 := ⟨by decide +kernel, rfl⟩
theorem eJ2_indexOfCharUnsafe_4cfef_15 : DD cJ2_indexOfCharUnsafe_4cfef 15 (.iload_n 1) 1 16 := ⟨by decide +kernel, rfl⟩
theorem eJ2_indexOfCharUnsafe_4cfef_16 : DB cJ2_indexOfCharUnsafe_4cfef 16 (.if_icmp .ne 6) (6) 19 22 := ⟨by decide +kernel, rfl, by decide⟩
theorem eJ2_indexOfCharUnsafe_4cfef_19 : DD cJ2_indexOfCharUnsafe_4cfef 19 (.iload 4) 2 21 := ⟨by decide +kernel, rfl⟩
theorem eJ2_indexOfCharUnsafe_4cfef_21 : decode cJ2_indexOfCharUnsafe_4cfef 21 = .ok (.ireturn, 1) := by decide +kernel
theorem eJ2_indexOfCharUnsafe_4cfef_22 : DD cJ2_indexOfCharUnsafe_4cfef 22 (.iinc 4 1) 3 25 := ⟨by decide +kernel, rfl⟩
theorem eJ2_indexOfCharUnsafe_4cfef_25 : DB cJ2_indexOfCharUnsafe_4cfef 25 (.goto (-22)) (-22) 28 3 := ⟨by decide +kernel, rfl, by decide⟩
theorem eJ2_indexOfCharUnsafe_4cfef_28 : DD cJ2_indexOfCharUnsafe_4cfef 28 (.iconst (-1)) 1 29 := ⟨by decide +kernel, rfl⟩
theorem eJ2_indexOfCharUnsafe_4cfef_29 : decode cJ2_indexOfCharUnsafe_4cfef 29 = .ok (.ireturn, 1) := by decide +kernel
theorem eJ2_indexOfSupplementary_4cfef_0 : DD cJ2_indexOfSupplementary_4cfef 0 (.iload_n 1) 1 1 := ⟨by decide +kernel, rfl⟩
theorem eJ2_indexOfSupplementary_4cfef_1 : DD cJ2_indexOfSupplementary_4cfef 1 (.invokestatic 164) 3 4 := ⟨by decide +kernel, rfl⟩
theorem eJ2_indexOfSupplementary_4cfef_4 : DB cJ2_indexOfSupplementary_4cfef 4 (.ifCond .eq 65) (65) 7 69 := ⟨by decide +kernel, rfl, by decide⟩
theorem eJ2_indexOfSupplementary_4cfef_7 : DD cJ2_indexOfSupplementary_4cfef 7 (.iload_n 1) 1 8 := ⟨by decide +kernel, rfl⟩
theorem eJ2_indexOfSupplementary_4cfef_8 : DD cJ2_indexOfSupplementary_4cfef 8 (.invokestatic 157) 3 11 := ⟨by decide +kernel, rfl⟩
theorem eJ2_indexOfSupplementary_4cfef_11 : DD cJ2_indexOfSupplementary_4cfef 11 (.istore 4) 2 13 := ⟨by decide +kernel, rfl⟩
theorem eJ2_indexOfSupplementary_4cfef_13 : DD cJ2_indexOfSupplementary_4cfef 13 (.iload_n 1) 1 14 := ⟨by decide +kernel, rfl⟩
theorem eJ2_indexOfSupplementary_4cfef_14 : DD cJ2_indexOfSupplementary_4cfef 14 (.invokestatic 161) 3 17 := ⟨by decide +kernel, rfl⟩
theorem eJ2_indexOfSupplementary_4cfef_17 : DD cJ2_indexOfSupplementary_4cfef 17 (.istore 5) 2 19 := ⟨by decide +kernel, rfl⟩
theorem eJ2_indexOfSupplementary_4cfef_19 : DD cJ2_indexOfSupplementary_4cfef 19 (.iload_n 2) 1 20 := ⟨by decide +kernel, rfl⟩
theorem eJ2_indexOfSupplementary_4cfef_20 : DD cJ2_indexOfSupplementary_4cfef 20 (.iload_n 3) 1 21 := ⟨by decide +kernel, rfl⟩
theorem eJ2_indexOfSupplementary_4cfef_21 : DD cJ2_indexOfSupplementary_4cfef 21 (.aload_n 0) 1 22 := ⟨by decide +kernel, rfl⟩
theorem eJ2_indexOfSupplementary_4cfef_22 : DD cJ2_indexOfSupplementary_4cfef 22 (.invokestatic 96) 3 25 := ⟨by decide +kernel, rfl⟩
theorem eJ2_indexOfSupplementary_4cfef_25 : DD cJ2_indexOfSupplementary_4cfef 25 (.iload_n 2) 1 26 := ⟨by decide +kernel, rfl⟩
theorem eJ2_indexOfSupplementary_4cfef_26 : DD cJ2_indexOfSupplementary_4cfef 26 (.istore 6) 2 28 := ⟨by decide +kernel, rfl⟩
theorem eJ2_indexOfSupplementary_4cfef_28 : DD cJ2_indexOfSupplementary_4cfef 28 (.iload 6) 2 30 := ⟨by decide +kernel, rfl⟩
theorem eJ2_indexOfSupplementary_4cfef_30 : DD cJ2_indexOfSupplementary_4cfef 30 (.iload_n 3) 1 31 := ⟨by decide +kernel, rfl⟩
theorem eJ2_indexOfSupplementary_4cfef_31 : DD cJ2_indexOfSupplementary_4cfef 31 (.iconst 1) 1 32 := ⟨by decide +kernel, rfl⟩
theorem eJ2_indexOfSupplementary_4cfef_32 : DD cJ2_indexOfSupplementary_4cfef 32 (.isub) 1 33 := ⟨by decide +kernel, rfl⟩
theorem eJ2_indexOfSupplementary_4cfef_33 : DB cJ2_indexOfSupplementary_4cfef 33 (.if_icmp .ge 36) (36) 36 69 := ⟨by decide +kernel, rfl, by decide⟩
theorem eJ2_indexOfSupplementary_4cfef_36 : DD cJ2_indexOfSupplementary_4cfef 36 (.aload_n 0) 1 37 := ⟨by decide +kernel, rfl⟩
theorem eJ2_indexOfSupplementary_4cfef_37 : DD cJ2_indexOfSupplementary_4cfef 37 (.iload 6) 2 39 := ⟨by decide +kernel, rfl⟩
theorem eJ2_indexOfSupplementary_4cfef_39 : DD cJ2_indexOfSupplementary_4cfef 39 (.invokestatic 71) 3 42 := ⟨by decide +kernel, rfl⟩
theorem eJ2_indexOfSupplementary_4cfef_42 : DD cJ2_indexOfSupplementary_4cfef 42 (.iload 4) 2 44 := ⟨by decide +kernel, rfl⟩
theorem eJ2_indexOfSupplementary_4cfef_44 : DB cJ2_indexOfSupplementary_4cfef 44 (.if_icmp .ne 19) (19) 47 63 := ⟨by decide +kernel, rfl, by decide⟩
theorem eJ2_indexOfSupplementary_4cfef_47 : DD cJ2_indexOfSupplementary_4cfef 47 (.aload_n 0) 1 48 := ⟨by decide +kernel, rfl⟩
theorem eJ2_indexOfSupplementary_4cfef_48 : DD cJ2_indexOfSupplementary_4cfef 48 (.iload 6) 2 50 := ⟨by decide +kernel, rfl⟩
theorem eJ2_indexOfSupplementary_4cfef_50 : DD cJ2_indexOfSupplementary_4cfef 50 (.iconst 1) 1 51 := ⟨by decide +kernel, rfl⟩
theorem eJ2_indexOfSupplementary_4cfef_51 : DD cJ2_indexOfSupplementary_4cfef 51 (.iadd) 1 52 := ⟨by decide +kernel, rfl⟩
theorem eJ2_indexOfSupplementary_4cfef_52 : DD cJ2_indexOfSupplementary_4cfef 52 (.invokestatic 71) 3 55 := ⟨by decide +kernel, rfl⟩
theorem eJ2_indexOfSupplementary_4cfef_55 : DD cJ2_indexOfSupplementary_4cfef 55 (.iload 5) 2 57 := ⟨by decide +kernel, rfl⟩
theorem eJ2_indexOfSupplementary_4cfef_57 : DB cJ2_indexOfSupplementary_4cfef 57 (.if_icmp .ne 6) (6) 60 63 := ⟨by decide +kernel, rfl, by decide⟩
theorem eJ2_indexOfSupplementary_4cfef_60 : DD cJ2_indexOfSupplementary_4cfef 60 (.iload 6) 2 62 := ⟨by decide +kernel, rfl⟩
theorem eJ2_indexOfSupplementary_4cfef_62 : decode cJ2_indexOfSupplementary_4cfef 62 = .ok (.ireturn, 1) := by decide +kernel
theorem eJ2_indexOfSupplementary_4cfef_63 : DD cJ2_indexOfSupplementary_4cfef 63 (.iinc 6 1) 3 66 := ⟨by decide +kernel, rfl⟩
theorem eJ2_indexOfSupplementary_4cfef_66 : DB cJ2_indexOfSupplementary_4cfef 66 (.goto (-38)) (-38) 69 28 := ⟨by decide +kernel, rfl, by decide⟩
theorem eJ2_indexOfSupplementary_4cfef_69 : DD cJ2_indexOfSupplementary_4cfef 69 (.iconst (-1)) 1 70 := ⟨by decide +kernel, rfl⟩
theorem eJ2_indexOfSupplementary_4cfef_70 : decode cJ2_indexOfSupplementary_4cfef 70 = .ok (.ireturn, 1) := by decide +kernel
theorem eJ2_charAt_3b067_0 : DD cJ2_charAt_3b067 0 (.iload_n 1) 1 1 := ⟨by decide +kernel, rfl⟩
theorem eJ2_charAt_3b067_1 : DD cJ2_charAt_3b067 1 (.aload_n 0) 1 2 := ⟨by decide +kernel, rfl⟩
theorem eJ2_charAt_3b067_2 : DD cJ2_charAt_3b067 2 (.invokestatic 67) 3 5 := ⟨by decide +kernel, rfl⟩
theorem eJ2_charAt_3b067_5 : DD cJ2_charAt_3b067 5 (.aload_n 0) 1 6 := ⟨by decide +kernel, rfl⟩
theorem eJ2_charAt_3b067_6 : DD cJ2_charAt_3b067 6 (.iload_n 1) 1 7 := ⟨by decide +kernel, rfl⟩
theorem eJ2_charAt_3b067_7 : DD cJ2_charAt_3b067 7 (.invokestatic 71) 3 10 := ⟨by decide +kernel, rfl⟩
theorem eJ2_charAt_3b067_10 : decode cJ2_charAt_3b067 10 = .ok (.ireturn, 1) := by decide +kernel
theorem eJ2_checkIndex_2214a_0 : DD cJ2_checkIndex_2214a 0 (.iload_n 0) 1 1 := ⟨by decide +kernel, rfl⟩
theorem eJ2_checkIndex_2214a_1 : DD cJ2_checkIndex_2214a 1 (.aload_n 1) 1 2 := ⟨by decide +kernel, rfl⟩
theorem eJ2_checkIndex_2214a_2 : DD cJ2_checkIndex_2214a 2 (.invokestatic 48) 3 5 := ⟨by decide +kernel, rfl⟩
theorem eJ2_checkIndex_2214a_5 : DD cJ2_checkIndex_2214a 5 (.invokestatic 414) 3 8 := ⟨by decide +kernel, rfl⟩
theorem eJ2_checkIndex_2214a_8 : decode cJ2_checkIndex_2214a 8 = .ok (.return_, 1) := by decide +kernel
theorem eJ2_checkBoundsBeginEnd_d044e_0 : DD cJ2_checkBoundsBeginEnd_d044e 0 (.iload_n 0) 1 1 := ⟨by decide +kernel, rfl⟩
theorem eJ2_checkBoundsBeginEnd_d044e_1 : DD cJ2_checkBoundsBeginEnd_d044e 1 (.iload_n 1) 1 2 := ⟨by decide +kernel, rfl⟩
theorem eJ2_checkBoundsBeginEnd_d044e_2 : DD cJ2_checkBoundsBeginEnd_d044e 2 (.aload_n 2) 1 3 := ⟨by decide +kernel, rfl⟩
theorem eJ2_checkBoundsBeginEnd_d044e_3 : DD cJ2_checkBoundsBeginEnd_d044e 3 (.invokestatic 48) 3 6 := ⟨by decide +kernel, rfl⟩
theorem eJ2_checkBoundsBeginEnd_d044e_6 : DD cJ2_checkBoundsBeginEnd_d044e 6 (.invokestatic 241) 3 9 := ⟨by decide +kernel, rfl⟩
theorem eJ2_checkBoundsBeginEnd_d044e_9 : decode cJ2_checkBoundsBeginEnd_d044e 9 = .ok (.return_, 1) := by decide +kernel
theorem eJ3_checkIndex_8e157_0 : DD cJ3_checkIndex_8e157 0 (.iload_n 0) 1 1 := ⟨by decide +kernel, rfl⟩
theorem eJ3_checkIndex_8e157_1 : DB cJ3_checkIndex_8e157 1 (.ifCond .lt 8) (8) 4 9 := ⟨by decide +kernel, rfl, by decide⟩
theorem eJ3_checkIndex_8e157_4 : DD cJ3_checkIndex_8e157 4 (.iload_n 0) 1 5 := ⟨by decide +kernel, rfl⟩
theorem eJ3_checkIndex_8e157_5 : DD cJ3_checkIndex_8e157 5 (.iload_n 1) 1 6 := ⟨by decide +kernel, rfl⟩
theorem eJ3_checkIndex_8e157_6 : DB cJ3_checkIndex_8e157 6 (.if_icmp .lt 10) (10) 9 16 := ⟨by decide +kernel, rfl, by decide⟩
theorem eJ3_checkIndex_8e157_9 : DD cJ3_checkIndex_8e157 9 (.aload_n 2) 1 10 := ⟨by decide +kernel, rfl⟩
theorem eJ3_checkIndex_8e157_10 : DD cJ3_checkIndex_8e157 10 (.iload_n 0) 1 11 := ⟨by decide +kernel, rfl⟩
theorem eJ3_checkIndex_8e157_11 : DD cJ3_checkIndex_8e157 11 (.iload_n 1) 1 12 := ⟨by decide +kernel, rfl⟩
theorem eJ3_checkIndex_8e157_12 : DD cJ3_checkIndex_8e157 12 (.invokestatic 95) 3 15 := ⟨by decide +kernel, rfl⟩
theorem eJ3_checkIndex_8e157_15 : decode cJ3_checkIndex_8e157 15 = .ok (.athrow, 1) := by decide +kernel
theorem eJ3_checkIndex_8e157_16 : DD cJ3_checkIndex_8e157 16 (.iload_n 0) 1 17 := ⟨by decide +kernel, rfl⟩
theorem eJ3_checkIndex_8e157_17 : decode cJ3_checkIndex_8e157 17 = .ok (.ireturn, 1) := by decide +kernel
theorem eJ3_checkFromToIndex_8c36e_0 : DD cJ3_checkFromToIndex_8c36e 0 (.iload_n 0) 1 1 := ⟨by decide +kernel, rfl⟩
theorem eJ3_checkFromToIndex_8c36e_1 : DB cJ3_checkFromToIndex_8c36e 1 (.ifCond .lt 13) (13) 4 14 := ⟨by decide +kernel, rfl, by decide⟩
theorem eJ3_checkFromToIndex_8c36e_4 : DD cJ3_checkFromToIndex_8c36e 4 (.iload_n 0) 1 5 := ⟨by decide +kernel, rfl⟩
theorem eJ3_checkFromToIndex_8c36e_5 : DD cJ3_checkFromToIndex_8c36e 5 (.iload_n 1) 1 6 := ⟨by decide +kernel, rfl⟩
theorem eJ3_checkFromToIndex_8c36e_6 : DB cJ3_checkFromToIndex_8c36e 6 (.if_icmp .gt 8) (8) 9 14 := ⟨by decide +kernel, rfl, by decide⟩
theorem eJ3_checkFromToIndex_8c36e_9 : DD cJ3_checkFromToIndex_8c36e 9 (.iload_n 1) 1 10 := ⟨by decide +kernel, rfl⟩
theorem eJ3_checkFromToIndex_8c36e_10 : DD cJ3_checkFromToIndex_8c36e 10 (.iload_n 2) 1 11 := ⟨by decide +kernel, rfl⟩
theorem eJ3_checkFromToIndex_8c36e_11 : DB cJ3_checkFromToIndex_8c36e 11 (.if_icmp .le 11) (11) 14 22 := ⟨by decide +kernel, rfl, by decide⟩
theorem eJ3_checkFromToIndex_8c36e_14 : DD cJ3_checkFromToIndex_8c36e 14 (.aload_n 3) 1 15 := ⟨by decide +kernel, rfl⟩
theorem eJ3_checkFromToIndex_8c36e_15 : DD cJ3_checkFromToIndex_8c36e 15 (.iload_n 0) 1 16 := ⟨by decide +kernel, rfl⟩
theorem eJ3_checkFromToIndex_8c36e_16 : DD cJ3_checkFromToIndex_8c36e 16 (.iload_n 1) 1 17 := ⟨by decide +kernel, rfl⟩
theorem eJ3_checkFromToIndex_8c36e_17 : DD cJ3_checkFromToIndex_8c36e 17 (.iload_n 2) 1 18 := ⟨by decide +kernel, rfl⟩
theorem eJ3_checkFromToIndex_8c36e_18 : DD cJ3_checkFromToIndex_8c36e 18 (.invokestatic 99) 3 21 := ⟨by decide +kernel, rfl⟩
theorem eJ3_checkFromToIndex_8c36e_21 : decode cJ3_checkFromToIndex_8c36e 21 = .ok (.athrow, 1) := by decide +kernel
theorem eJ3_checkFromToIndex_8c36e_22 : DD cJ3_checkFromToIndex_8c36e 22 (.iload_n 0) 1 23 := ⟨by decide +kernel, rfl⟩
theorem eJ3_checkFromToIndex_8c36e_23 : decode cJ3_checkFromToIndex_8c36e 23 = .ok (.ireturn, 1) := by decide +kernel
