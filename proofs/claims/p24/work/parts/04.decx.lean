theorem dX0_init_0 : decode cX0_init 0 = .ok (.aload_n 0, 1) := by decide +kernel
theorem dX0_init_1 : decode cX0_init 1 = .ok (.invokespecial 1, 3) := by decide +kernel
theorem dX0_init_4 : decode cX0_init 4 = .ok (.aload_n 0, 1) := by decide +kernel
theorem dX0_init_5 : decode cX0_init 5 = .ok (.bipush 8, 2) := by decide +kernel
theorem dX0_init_7 : decode cX0_init 7 = .ok (.newarray .long, 2) := by decide +kernel
theorem dX0_init_9 : decode cX0_init 9 = .ok (.putfield 9, 3) := by decide +kernel
theorem dX0_init_12 : decode cX0_init 12 = .ok (.aload_n 0, 1) := by decide +kernel
theorem dX0_init_13 : decode cX0_init 13 = .ok (.iconst 0, 1) := by decide +kernel
theorem dX0_init_14 : decode cX0_init 14 = .ok (.putfield 13, 3) := by decide +kernel
theorem dX0_init_17 : decode cX0_init 17 = .ok (.aload_n 0, 1) := by decide +kernel
theorem dX0_init_18 : decode cX0_init 18 = .ok (.iconst 0, 1) := by decide +kernel
theorem dX0_init_19 : decode cX0_init 19 = .ok (.putfield 17, 3) := by decide +kernel
theorem dX0_init_22 : decode cX0_init 22 = .ok (.return_, 1) := by decide +kernel
theorem dX0_tell_0 : decode cX0_tell 0 = .ok (.iload_n 1, 1) := by decide +kernel
theorem dX0_tell_1 : decode cX0_tell 1 = .ok (.invokestatic 20, 3) := by decide +kernel
theorem dX0_tell_4 : decode cX0_tell 4 = .ok (.iconst 0, 1) := by decide +kernel
theorem dX0_tell_5 : decode cX0_tell 5 = .ok (.iload_n 2, 1) := by decide +kernel
theorem dX0_tell_6 : decode cX0_tell 6 = .ok (.invokestatic 24, 3) := by decide +kernel
theorem dX0_tell_9 : decode cX0_tell 9 = .ok (.iconst 1, 1) := by decide +kernel
theorem dX0_tell_10 : decode cX0_tell 10 = .ok (.iload_n 3, 1) := by decide +kernel
theorem dX0_tell_11 : decode cX0_tell 11 = .ok (.invokestatic 24, 3) := by decide +kernel
theorem dX0_tell_14 : decode cX0_tell 14 = .ok (.iconst 2, 1) := by decide +kernel
theorem dX0_tell_15 : decode cX0_tell 15 = .ok (.iload 4, 2) := by decide +kernel
theorem dX0_tell_17 : decode cX0_tell 17 = .ok (.invokestatic 24, 3) := by decide +kernel
theorem dX0_tell_20 : decode cX0_tell 20 = .ok (.iconst 3, 1) := by decide +kernel
theorem dX0_tell_21 : decode cX0_tell 21 = .ok (.iload 5, 2) := by decide +kernel
theorem dX0_tell_23 : decode cX0_tell 23 = .ok (.invokestatic 24, 3) := by decide +kernel
theorem dX0_tell_26 : decode cX0_tell 26 = .ok (.aload_n 0, 1) := by decide +kernel
theorem dX0_tell_27 : decode cX0_tell 27 = .ok (.iload_n 1, 1) := by decide +kernel
theorem dX0_tell_28 : decode cX0_tell 28 = .ok (.iload_n 2, 1) := by decide +kernel
theorem dX0_tell_29 : decode cX0_tell 29 = .ok (.iload_n 3, 1) := by decide +kernel
theorem dX0_tell_30 : decode cX0_tell 30 = .ok (.iload 4, 2) := by decide +kernel
theorem dX0_tell_32 : decode cX0_tell 32 = .ok (.iload 5, 2) := by decide +kernel
theorem dX0_tell_34 : decode cX0_tell 34 = .ok (.invokestatic 28, 3) := by decide +kernel
theorem dX0_tell_37 : decode cX0_tell 37 = .ok (.invokevirtual 32, 3) := by decide +kernel
theorem dX0_tell_40 : decode cX0_tell 40 = .ok (.ireturn, 1) := by decide +kernel
theorem dX0_tellSecond_0 : decode cX0_tellSecond 0 = .ok (.iload_n 1, 1) := by decide +kernel
theorem dX0_tellSecond_1 : decode cX0_tellSecond 1 = .ok (.invokestatic 20, 3) := by decide +kernel
theorem dX0_tellSecond_4 : decode cX0_tellSecond 4 = .ok (.iload_n 2, 1) := by decide +kernel
theorem dX0_tellSecond_5 : decode cX0_tellSecond 5 = .ok (.invokestatic 36, 3) := by decide +kernel
theorem dX0_tellSecond_8 : decode cX0_tellSecond 8 = .ok (.aload_n 0, 1) := by decide +kernel
theorem dX0_tellSecond_9 : decode cX0_tellSecond 9 = .ok (.iload_n 1, 1) := by decide +kernel
theorem dX0_tellSecond_10 : decode cX0_tellSecond 10 = .ok (.iload_n 2, 1) := by decide +kernel
theorem dX0_tellSecond_11 : decode cX0_tellSecond 11 = .ok (.i2l, 1) := by decide +kernel
theorem dX0_tellSecond_12 : decode cX0_tellSecond 12 = .ok (.ldc2_w 39, 3) := by decide +kernel
theorem dX0_tellSecond_15 : decode cX0_tellSecond 15 = .ok (.lmul, 1) := by decide +kernel
theorem dX0_tellSecond_16 : decode cX0_tellSecond 16 = .ok (.invokevirtual 32, 3) := by decide +kernel
theorem dX0_tellSecond_19 : decode cX0_tellSecond 19 = .ok (.pop, 1) := by decide +kernel
theorem dX0_tellSecond_20 : decode cX0_tellSecond 20 = .ok (.aload_n 0, 1) := by decide +kernel
theorem dX0_tellSecond_21 : decode cX0_tellSecond 21 = .ok (.iload_n 1, 1) := by decide +kernel
theorem dX0_tellSecond_22 : decode cX0_tellSecond 22 = .ok (.invokevirtual 41, 3) := by decide +kernel
theorem dX0_tellSecond_25 : decode cX0_tellSecond 25 = .ok (.iconst 0, 1) := by decide +kernel
theorem dX0_tellSecond_26 : decode cX0_tellSecond 26 = .ok (.invokestatic 45, 3) := by decide +kernel
theorem dX0_tellSecond_29 : decode cX0_tellSecond 29 = .ok (.ireturn, 1) := by decide +kernel
theorem dX0_tellNumber_0 : decode cX0_tellNumber 0 = .ok (.iload_n 1, 1) := by decide +kernel
theorem dX0_tellNumber_1 : decode cX0_tellNumber 1 = .ok (.invokestatic 20, 3) := by decide +kernel
theorem dX0_tellNumber_4 : decode cX0_tellNumber 4 = .ok (.iload_n 2, 1) := by decide +kernel
theorem dX0_tellNumber_5 : decode cX0_tellNumber 5 = .ok (.invokestatic 36, 3) := by decide +kernel
theorem dX0_tellNumber_8 : decode cX0_tellNumber 8 = .ok (.iconst 3, 1) := by decide +kernel
theorem dX0_tellNumber_9 : decode cX0_tellNumber 9 = .ok (.iload_n 3, 1) := by decide +kernel
theorem dX0_tellNumber_10 : decode cX0_tellNumber 10 = .ok (.invokestatic 24, 3) := by decide +kernel
theorem dX0_tellNumber_13 : decode cX0_tellNumber 13 = .ok (.aload_n 0, 1) := by decide +kernel
theorem dX0_tellNumber_14 : decode cX0_tellNumber 14 = .ok (.iload_n 1, 1) := by decide +kernel
theorem dX0_tellNumber_15 : decode cX0_tellNumber 15 = .ok (.iload_n 2, 1) := by decide +kernel
theorem dX0_tellNumber_16 : decode cX0_tellNumber 16 = .ok (.i2l, 1) := by decide +kernel
theorem dX0_tellNumber_17 : decode cX0_tellNumber 17 = .ok (.ldc2_w 39, 3) := by decide +kernel
theorem dX0_tellNumber_20 : decode cX0_tellNumber 20 = .ok (.lmul, 1) := by decide +kernel
theorem dX0_tellNumber_21 : decode cX0_tellNumber 21 = .ok (.iload_n 3, 1) := by decide +kernel
theorem dX0_tellNumber_22 : decode cX0_tellNumber 22 = .ok (.i2l, 1) := by decide +kernel
theorem dX0_tellNumber_23 : decode cX0_tellNumber 23 = .ok (.ladd, 1) := by decide +kernel
theorem dX0_tellNumber_24 : decode cX0_tellNumber 24 = .ok (.invokevirtual 32, 3) := by decide +kernel
theorem dX0_tellNumber_27 : decode cX0_tellNumber 27 = .ok (.pop, 1) := by decide +kernel
theorem dX0_tellNumber_28 : decode cX0_tellNumber 28 = .ok (.aload_n 0, 1) := by decide +kernel
theorem dX0_tellNumber_29 : decode cX0_tellNumber 29 = .ok (.iload_n 1, 1) := by decide +kernel
theorem dX0_tellNumber_30 : decode cX0_tellNumber 30 = .ok (.invokevirtual 41, 3) := by decide +kernel
theorem dX0_tellNumber_33 : decode cX0_tellNumber 33 = .ok (.iconst 0, 1) := by decide +kernel
theorem dX0_tellNumber_34 : decode cX0_tellNumber 34 = .ok (.invokestatic 45, 3) := by decide +kernel
theorem dX0_tellNumber_37 : decode cX0_tellNumber 37 = .ok (.ireturn, 1) := by decide +kernel
theorem dX0_tellKnown_0 : decode cX0_tellKnown 0 = .ok (.iload_n 1, 1) := by decide +kernel
theorem dX0_tellKnown_1 : decode cX0_tellKnown 1 = .ok (.invokestatic 20, 3) := by decide +kernel
theorem dX0_tellKnown_4 : decode cX0_tellKnown 4 = .ok (.iload_n 2, 1) := by decide +kernel
theorem dX0_tellKnown_5 : decode cX0_tellKnown 5 = .ok (.ifCond .lt 11, 3) := by decide +kernel
theorem dX0_tellKnown_8 : decode cX0_tellKnown 8 = .ok (.iload_n 2, 1) := by decide +kernel
theorem dX0_tellKnown_9 : decode cX0_tellKnown 9 = .ok (.getstatic 49, 3) := by decide +kernel
theorem dX0_tellKnown_12 : decode cX0_tellKnown 12 = .ok (.arraylength, 1) := by decide +kernel
theorem dX0_tellKnown_13 : decode cX0_tellKnown 13 = .ok (.if_icmp .lt 13, 3) := by decide +kernel
theorem dX0_tellKnown_16 : decode cX0_tellKnown 16 = .ok (.new 52, 3) := by decide +kernel
theorem dX0_tellKnown_19 : decode cX0_tellKnown 19 = .ok (.dup, 1) := by decide +kernel
theorem dX0_tellKnown_20 : decode cX0_tellKnown 20 = .ok (.ldc 54, 2) := by decide +kernel
theorem dX0_tellKnown_22 : decode cX0_tellKnown 22 = .ok (.invokespecial 56, 3) := by decide +kernel
theorem dX0_tellKnown_25 : decode cX0_tellKnown 25 = .ok (.athrow, 1) := by decide +kernel
theorem dX0_tellKnown_26 : decode cX0_tellKnown 26 = .ok (.aload_n 0, 1) := by decide +kernel
theorem dX0_tellKnown_27 : decode cX0_tellKnown 27 = .ok (.iload_n 1, 1) := by decide +kernel
theorem dX0_tellKnown_28 : decode cX0_tellKnown 28 = .ok (.getstatic 49, 3) := by decide +kernel
theorem dX0_tellKnown_31 : decode cX0_tellKnown 31 = .ok (.iload_n 2, 1) := by decide +kernel
theorem dX0_tellKnown_32 : decode cX0_tellKnown 32 = .ok (.laload, 1) := by decide +kernel
theorem dX0_tellKnown_33 : decode cX0_tellKnown 33 = .ok (.invokevirtual 32, 3) := by decide +kernel
theorem dX0_tellKnown_36 : decode cX0_tellKnown 36 = .ok (.ireturn, 1) := by decide +kernel
theorem dX0_take_0 : decode cX0_take 0 = .ok (.iload_n 1, 1) := by decide +kernel
theorem dX0_take_1 : decode cX0_take 1 = .ok (.invokestatic 20, 3) := by decide +kernel
theorem dX0_take_4 : decode cX0_take 4 = .ok (.iload_n 2, 1) := by decide +kernel
theorem dX0_take_5 : decode cX0_take 5 = .ok (.invokestatic 20, 3) := by decide +kernel
theorem dX0_take_8 : decode cX0_take 8 = .ok (.aload_n 0, 1) := by decide +kernel
theorem dX0_take_9 : decode cX0_take 9 = .ok (.iload_n 1, 1) := by decide +kernel
theorem dX0_take_10 : decode cX0_take 10 = .ok (.invokevirtual 41, 3) := by decide +kernel
theorem dX0_take_13 : decode cX0_take 13 = .ok (.lstore_n 3, 1) := by decide +kernel
theorem dX0_take_14 : decode cX0_take 14 = .ok (.aload_n 0, 1) := by decide +kernel
theorem dX0_take_15 : decode cX0_take 15 = .ok (.iload_n 2, 1) := by decide +kernel
theorem dX0_take_16 : decode cX0_take 16 = .ok (.invokevirtual 41, 3) := by decide +kernel
theorem dX0_take_19 : decode cX0_take 19 = .ok (.lstore 5, 2) := by decide +kernel
theorem dX0_take_21 : decode cX0_take 21 = .ok (.aload_n 0, 1) := by decide +kernel
theorem dX0_take_22 : decode cX0_take 22 = .ok (.iload_n 1, 1) := by decide +kernel
theorem dX0_take_23 : decode cX0_take 23 = .ok (.lload 5, 2) := by decide +kernel
theorem dX0_take_25 : decode cX0_take 25 = .ok (.invokevirtual 32, 3) := by decide +kernel
theorem dX0_take_28 : decode cX0_take 28 = .ok (.pop, 1) := by decide +kernel
theorem dX0_take_29 : decode cX0_take 29 = .ok (.lload_n 3, 1) := by decide +kernel
theorem dX0_take_30 : decode cX0_take 30 = .ok (.lload 5, 2) := by decide +kernel
theorem dX0_take_32 : decode cX0_take 32 = .ok (.lcmp, 1) := by decide +kernel
theorem dX0_take_33 : decode cX0_take 33 = .ok (.ifCond .ne 7, 3) := by decide +kernel
theorem dX0_take_36 : decode cX0_take 36 = .ok (.iconst 0, 1) := by decide +kernel
theorem dX0_take_37 : decode cX0_take 37 = .ok (.goto 4, 3) := by decide +kernel
theorem dX0_take_40 : decode cX0_take 40 = .ok (.iconst 1, 1) := by decide +kernel
theorem dX0_take_41 : decode cX0_take 41 = .ok (.ireturn, 1) := by decide +kernel
theorem dX0_with_0 : decode cX0_with 0 = .ok (.iload_n 1, 1) := by decide +kernel
theorem dX0_with_1 : decode cX0_with 1 = .ok (.invokestatic 20, 3) := by decide +kernel
theorem dX0_with_4 : decode cX0_with 4 = .ok (.iload_n 2, 1) := by decide +kernel
theorem dX0_with_5 : decode cX0_with 5 = .ok (.iload_n 3, 1) := by decide +kernel
theorem dX0_with_6 : decode cX0_with 6 = .ok (.invokestatic 24, 3) := by decide +kernel
theorem dX0_with_9 : decode cX0_with 9 = .ok (.aload_n 0, 1) := by decide +kernel
theorem dX0_with_10 : decode cX0_with 10 = .ok (.iload_n 1, 1) := by decide +kernel
theorem dX0_with_11 : decode cX0_with 11 = .ok (.invokevirtual 41, 3) := by decide +kernel
theorem dX0_with_14 : decode cX0_with 14 = .ok (.lstore 4, 2) := by decide +kernel
theorem dX0_with_16 : decode cX0_with 16 = .ok (.lload 4, 2) := by decide +kernel
theorem dX0_with_18 : decode cX0_with 18 = .ok (.iload_n 2, 1) := by decide +kernel
theorem dX0_with_19 : decode cX0_with 19 = .ok (.invokestatic 45, 3) := by decide +kernel
theorem dX0_with_22 : decode cX0_with 22 = .ok (.istore 6, 2) := by decide +kernel
theorem dX0_with_24 : decode cX0_with 24 = .ok (.aload_n 0, 1) := by decide +kernel
theorem dX0_with_25 : decode cX0_with 25 = .ok (.iload_n 1, 1) := by decide +kernel
theorem dX0_with_26 : decode cX0_with 26 = .ok (.lload 4, 2) := by decide +kernel
theorem dX0_with_28 : decode cX0_with 28 = .ok (.iload_n 3, 1) := by decide +kernel
theorem dX0_with_29 : decode cX0_with 29 = .ok (.i2l, 1) := by decide +kernel
theorem dX0_with_30 : decode cX0_with 30 = .ok (.iload 6, 2) := by decide +kernel
theorem dX0_with_32 : decode cX0_with 32 = .ok (.i2l, 1) := by decide +kernel
theorem dX0_with_33 : decode cX0_with 33 = .ok (.lsub, 1) := by decide +kernel
theorem dX0_with_34 : decode cX0_with 34 = .ok (.iload_n 2, 1) := by decide +kernel
theorem dX0_with_35 : decode cX0_with 35 = .ok (.invokestatic 59, 3) := by decide +kernel
theorem dX0_with_38 : decode cX0_with 38 = .ok (.lmul, 1) := by decide +kernel
theorem dX0_with_39 : decode cX0_with 39 = .ok (.ladd, 1) := by decide +kernel
theorem dX0_with_40 : decode cX0_with 40 = .ok (.invokevirtual 32, 3) := by decide +kernel
theorem dX0_with_43 : decode cX0_with 43 = .ok (.pop, 1) := by decide +kernel
theorem dX0_with_44 : decode cX0_with 44 = .ok (.iload 6, 2) := by decide +kernel
theorem dX0_with_46 : decode cX0_with 46 = .ok (.ireturn, 1) := by decide +kernel
theorem dX0_plus_0 : decode cX0_plus 0 = .ok (.iload_n 1, 1) := by decide +kernel
theorem dX0_plus_1 : decode cX0_plus 1 = .ok (.invokestatic 20, 3) := by decide +kernel
theorem dX0_plus_4 : decode cX0_plus 4 = .ok (.iload_n 2, 1) := by decide +kernel
theorem dX0_plus_5 : decode cX0_plus 5 = .ok (.invokestatic 62, 3) := by decide +kernel
theorem dX0_plus_8 : decode cX0_plus 8 = .ok (.aload_n 0, 1) := by decide +kernel
theorem dX0_plus_9 : decode cX0_plus 9 = .ok (.iload_n 1, 1) := by decide +kernel
theorem dX0_plus_10 : decode cX0_plus 10 = .ok (.aload_n 0, 1) := by decide +kernel
theorem dX0_plus_11 : decode cX0_plus 11 = .ok (.iload_n 1, 1) := by decide +kernel
theorem dX0_plus_12 : decode cX0_plus 12 = .ok (.invokevirtual 41, 3) := by decide +kernel
theorem dX0_plus_15 : decode cX0_plus 15 = .ok (.iload_n 2, 1) := by decide +kernel
theorem dX0_plus_16 : decode cX0_plus 16 = .ok (.iload_n 3, 1) := by decide +kernel
theorem dX0_plus_17 : decode cX0_plus 17 = .ok (.i2l, 1) := by decide +kernel
theorem dX0_plus_18 : decode cX0_plus 18 = .ok (.iload 4, 2) := by decide +kernel
theorem dX0_plus_20 : decode cX0_plus 20 = .ok (.i2l, 1) := by decide +kernel
theorem dX0_plus_21 : decode cX0_plus 21 = .ok (.lmul, 1) := by decide +kernel
theorem dX0_plus_22 : decode cX0_plus 22 = .ok (.invokestatic 65, 3) := by decide +kernel
theorem dX0_plus_25 : decode cX0_plus 25 = .ok (.invokevirtual 32, 3) := by decide +kernel
theorem dX0_plus_28 : decode cX0_plus 28 = .ok (.ireturn, 1) := by decide +kernel
theorem dX0_minus_0 : decode cX0_minus 0 = .ok (.iload_n 1, 1) := by decide +kernel
theorem dX0_minus_1 : decode cX0_minus 1 = .ok (.invokestatic 20, 3) := by decide +kernel
theorem dX0_minus_4 : decode cX0_minus 4 = .ok (.iload_n 2, 1) := by decide +kernel
theorem dX0_minus_5 : decode cX0_minus 5 = .ok (.invokestatic 62, 3) := by decide +kernel
theorem dX0_minus_8 : decode cX0_minus 8 = .ok (.aload_n 0, 1) := by decide +kernel
theorem dX0_minus_9 : decode cX0_minus 9 = .ok (.iload_n 1, 1) := by decide +kernel
theorem dX0_minus_10 : decode cX0_minus 10 = .ok (.aload_n 0, 1) := by decide +kernel
theorem dX0_minus_11 : decode cX0_minus 11 = .ok (.iload_n 1, 1) := by decide +kernel
theorem dX0_minus_12 : decode cX0_minus 12 = .ok (.invokevirtual 41, 3) := by decide +kernel
theorem dX0_minus_15 : decode cX0_minus 15 = .ok (.iload_n 2, 1) := by decide +kernel
theorem dX0_minus_16 : decode cX0_minus 16 = .ok (.iload_n 3, 1) := by decide +kernel
theorem dX0_minus_17 : decode cX0_minus 17 = .ok (.i2l, 1) := by decide +kernel
theorem dX0_minus_18 : decode cX0_minus 18 = .ok (.iload 4, 2) := by decide +kernel
theorem dX0_minus_20 : decode cX0_minus 20 = .ok (.i2l, 1) := by decide +kernel
theorem dX0_minus_21 : decode cX0_minus 21 = .ok (.lmul, 1) := by decide +kernel
theorem dX0_minus_22 : decode cX0_minus 22 = .ok (.lneg, 1) := by decide +kernel
theorem dX0_minus_23 : decode cX0_minus 23 = .ok (.invokestatic 65, 3) := by decide +kernel
theorem dX0_minus_26 : decode cX0_minus 26 = .ok (.invokevirtual 32, 3) := by decide +kernel
theorem dX0_minus_29 : decode cX0_minus 29 = .ok (.ireturn, 1) := by decide +kernel
theorem dX0_walk_0 : decode cX0_walk 0 = .ok (.iload_n 1, 1) := by decide +kernel
theorem dX0_walk_1 : decode cX0_walk 1 = .ok (.invokestatic 20, 3) := by decide +kernel
theorem dX0_walk_4 : decode cX0_walk 4 = .ok (.iload_n 2, 1) := by decide +kernel
theorem dX0_walk_5 : decode cX0_walk 5 = .ok (.invokestatic 62, 3) := by decide +kernel
theorem dX0_walk_8 : decode cX0_walk 8 = .ok (.iload 4, 2) := by decide +kernel
theorem dX0_walk_10 : decode cX0_walk 10 = .ok (.ifCond .lt 10, 3) := by decide +kernel
theorem dX0_walk_13 : decode cX0_walk 13 = .ok (.iload 4, 2) := by decide +kernel
theorem dX0_walk_15 : decode cX0_walk 15 = .ok (.bipush 40, 2) := by decide +kernel
theorem dX0_walk_17 : decode cX0_walk 17 = .ok (.if_icmp .le 13, 3) := by decide +kernel
theorem dX0_walk_20 : decode cX0_walk 20 = .ok (.new 52, 3) := by decide +kernel
theorem dX0_walk_23 : decode cX0_walk 23 = .ok (.dup, 1) := by decide +kernel
theorem dX0_walk_24 : decode cX0_walk 24 = .ok (.ldc 69, 2) := by decide +kernel
theorem dX0_walk_26 : decode cX0_walk 26 = .ok (.invokespecial 56, 3) := by decide +kernel
theorem dX0_walk_29 : decode cX0_walk 29 = .ok (.athrow, 1) := by decide +kernel
theorem dX0_walk_30 : decode cX0_walk 30 = .ok (.aload_n 0, 1) := by decide +kernel
theorem dX0_walk_31 : decode cX0_walk 31 = .ok (.iload_n 1, 1) := by decide +kernel
theorem dX0_walk_32 : decode cX0_walk 32 = .ok (.invokevirtual 41, 3) := by decide +kernel
theorem dX0_walk_35 : decode cX0_walk 35 = .ok (.lstore 5, 2) := by decide +kernel
theorem dX0_walk_37 : decode cX0_walk 37 = .ok (.iconst 0, 1) := by decide +kernel
theorem dX0_walk_38 : decode cX0_walk 38 = .ok (.istore 7, 2) := by decide +kernel
theorem dX0_walk_40 : decode cX0_walk 40 = .ok (.iconst 0, 1) := by decide +kernel
theorem dX0_walk_41 : decode cX0_walk 41 = .ok (.istore 8, 2) := by decide +kernel
theorem dX0_walk_43 : decode cX0_walk 43 = .ok (.iload 8, 2) := by decide +kernel
theorem dX0_walk_45 : decode cX0_walk 45 = .ok (.iload 4, 2) := by decide +kernel
theorem dX0_walk_47 : decode cX0_walk 47 = .ok (.if_icmp .ge 34, 3) := by decide +kernel
theorem dX0_walk_50 : decode cX0_walk 50 = .ok (.lload 5, 2) := by decide +kernel
theorem dX0_walk_52 : decode cX0_walk 52 = .ok (.iload_n 2, 1) := by decide +kernel
theorem dX0_walk_53 : decode cX0_walk 53 = .ok (.iload_n 3, 1) := by decide +kernel
theorem dX0_walk_54 : decode cX0_walk 54 = .ok (.i2l, 1) := by decide +kernel
theorem dX0_walk_55 : decode cX0_walk 55 = .ok (.invokestatic 65, 3) := by decide +kernel
theorem dX0_walk_58 : decode cX0_walk 58 = .ok (.lstore 9, 2) := by decide +kernel
theorem dX0_walk_60 : decode cX0_walk 60 = .ok (.lload 9, 2) := by decide +kernel
theorem dX0_walk_62 : decode cX0_walk 62 = .ok (.lload 5, 2) := by decide +kernel
theorem dX0_walk_64 : decode cX0_walk 64 = .ok (.lcmp, 1) := by decide +kernel
theorem dX0_walk_65 : decode cX0_walk 65 = .ok (.ifCond .ge 6, 3) := by decide +kernel
theorem dX0_walk_68 : decode cX0_walk 68 = .ok (.iinc 7 1, 3) := by decide +kernel
theorem dX0_walk_71 : decode cX0_walk 71 = .ok (.lload 9, 2) := by decide +kernel
theorem dX0_walk_73 : decode cX0_walk 73 = .ok (.lstore 5, 2) := by decide +kernel
theorem dX0_walk_75 : decode cX0_walk 75 = .ok (.iinc 8 1, 3) := by decide +kernel
theorem dX0_walk_78 : decode cX0_walk 78 = .ok (.goto (-35), 3) := by decide +kernel
theorem dX0_walk_81 : decode cX0_walk 81 = .ok (.aload_n 0, 1) := by decide +kernel
theorem dX0_walk_82 : decode cX0_walk 82 = .ok (.iload_n 1, 1) := by decide +kernel
theorem dX0_walk_83 : decode cX0_walk 83 = .ok (.lload 5, 2) := by decide +kernel
theorem dX0_walk_85 : decode cX0_walk 85 = .ok (.invokevirtual 32, 3) := by decide +kernel
theorem dX0_walk_88 : decode cX0_walk 88 = .ok (.pop, 1) := by decide +kernel
theorem dX0_walk_89 : decode cX0_walk 89 = .ok (.iload 7, 2) := by decide +kernel
theorem dX0_walk_91 : decode cX0_walk 91 = .ok (.ireturn, 1) := by decide +kernel
theorem dX0_cut_0 : decode cX0_cut 0 = .ok (.iload_n 1, 1) := by decide +kernel
theorem dX0_cut_1 : decode cX0_cut 1 = .ok (.invokestatic 20, 3) := by decide +kernel
theorem dX0_cut_4 : decode cX0_cut 4 = .ok (.iload_n 2, 1) := by decide +kernel
theorem dX0_cut_5 : decode cX0_cut 5 = .ok (.bipush 7, 2) := by decide +kernel
theorem dX0_cut_7 : decode cX0_cut 7 = .ok (.invokestatic 71, 3) := by decide +kernel
theorem dX0_cut_10 : decode cX0_cut 10 = .ok (.aload_n 0, 1) := by decide +kernel
theorem dX0_cut_11 : decode cX0_cut 11 = .ok (.iload_n 1, 1) := by decide +kernel
theorem dX0_cut_12 : decode cX0_cut 12 = .ok (.aload_n 0, 1) := by decide +kernel
theorem dX0_cut_13 : decode cX0_cut 13 = .ok (.iload_n 1, 1) := by decide +kernel
theorem dX0_cut_14 : decode cX0_cut 14 = .ok (.invokevirtual 41, 3) := by decide +kernel
theorem dX0_cut_17 : decode cX0_cut 17 = .ok (.iload_n 2, 1) := by decide +kernel
theorem dX0_cut_18 : decode cX0_cut 18 = .ok (.invokestatic 74, 3) := by decide +kernel
theorem dX0_cut_21 : decode cX0_cut 21 = .ok (.invokevirtual 32, 3) := by decide +kernel
theorem dX0_cut_24 : decode cX0_cut 24 = .ok (.ireturn, 1) := by decide +kernel
theorem dX0_of_0 : decode cX0_of 0 = .ok (.iload_n 1, 1) := by decide +kernel
theorem dX0_of_1 : decode cX0_of 1 = .ok (.invokestatic 20, 3) := by decide +kernel
theorem dX0_of_4 : decode cX0_of 4 = .ok (.iload_n 2, 1) := by decide +kernel
theorem dX0_of_5 : decode cX0_of 5 = .ok (.ifCond .lt 8, 3) := by decide +kernel
theorem dX0_of_8 : decode cX0_of 8 = .ok (.iload_n 2, 1) := by decide +kernel
theorem dX0_of_9 : decode cX0_of 9 = .ok (.iconst 4, 1) := by decide +kernel
theorem dX0_of_10 : decode cX0_of 10 = .ok (.if_icmp .le 13, 3) := by decide +kernel
theorem dX0_of_13 : decode cX0_of 13 = .ok (.new 52, 3) := by decide +kernel
theorem dX0_of_16 : decode cX0_of 16 = .ok (.dup, 1) := by decide +kernel
theorem dX0_of_17 : decode cX0_of 17 = .ok (.ldc 78, 2) := by decide +kernel
theorem dX0_of_19 : decode cX0_of 19 = .ok (.invokespecial 56, 3) := by decide +kernel
theorem dX0_of_22 : decode cX0_of 22 = .ok (.athrow, 1) := by decide +kernel
theorem dX0_of_23 : decode cX0_of 23 = .ok (.aload_n 0, 1) := by decide +kernel
theorem dX0_of_24 : decode cX0_of 24 = .ok (.iload_n 1, 1) := by decide +kernel
theorem dX0_of_25 : decode cX0_of 25 = .ok (.invokevirtual 41, 3) := by decide +kernel
theorem dX0_of_28 : decode cX0_of 28 = .ok (.iload_n 2, 1) := by decide +kernel
theorem dX0_of_29 : decode cX0_of 29 = .ok (.invokestatic 45, 3) := by decide +kernel
theorem dX0_of_32 : decode cX0_of 32 = .ok (.ireturn, 1) := by decide +kernel
theorem dX0_number_0 : decode cX0_number 0 = .ok (.iload_n 1, 1) := by decide +kernel
theorem dX0_number_1 : decode cX0_number 1 = .ok (.invokestatic 20, 3) := by decide +kernel
theorem dX0_number_4 : decode cX0_number 4 = .ok (.aload_n 0, 1) := by decide +kernel
theorem dX0_number_5 : decode cX0_number 5 = .ok (.iload_n 1, 1) := by decide +kernel
theorem dX0_number_6 : decode cX0_number 6 = .ok (.invokevirtual 41, 3) := by decide +kernel
theorem dX0_number_9 : decode cX0_number 9 = .ok (.invokestatic 80, 3) := by decide +kernel
theorem dX0_number_12 : decode cX0_number 12 = .ok (.areturn, 1) := by decide +kernel
theorem dX0_text_0 : decode cX0_text 0 = .ok (.iload_n 1, 1) := by decide +kernel
theorem dX0_text_1 : decode cX0_text 1 = .ok (.invokestatic 20, 3) := by decide +kernel
theorem dX0_text_4 : decode cX0_text 4 = .ok (.aload_n 0, 1) := by decide +kernel
theorem dX0_text_5 : decode cX0_text 5 = .ok (.iload_n 1, 1) := by decide +kernel
theorem dX0_text_6 : decode cX0_text 6 = .ok (.invokevirtual 41, 3) := by decide +kernel
theorem dX0_text_9 : decode cX0_text 9 = .ok (.lstore_n 2, 1) := by decide +kernel
theorem dX0_text_10 : decode cX0_text 10 = .ok (.new 84, 3) := by decide +kernel
theorem dX0_text_13 : decode cX0_text 13 = .ok (.dup, 1) := by decide +kernel
theorem dX0_text_14 : decode cX0_text 14 = .ok (.invokespecial 86, 3) := by decide +kernel
theorem dX0_text_17 : decode cX0_text 17 = .ok (.astore 4, 2) := by decide +kernel
theorem dX0_text_19 : decode cX0_text 19 = .ok (.aload 4, 2) := by decide +kernel
theorem dX0_text_21 : decode cX0_text 21 = .ok (.lload_n 2, 1) := by decide +kernel
theorem dX0_text_22 : decode cX0_text 22 = .ok (.iconst 0, 1) := by decide +kernel
theorem dX0_text_23 : decode cX0_text 23 = .ok (.invokestatic 45, 3) := by decide +kernel
theorem dX0_text_26 : decode cX0_text 26 = .ok (.invokevirtual 87, 3) := by decide +kernel
theorem dX0_text_29 : decode cX0_text 29 = .ok (.bipush 58, 2) := by decide +kernel
theorem dX0_text_31 : decode cX0_text 31 = .ok (.invokevirtual 91, 3) := by decide +kernel
theorem dX0_text_34 : decode cX0_text 34 = .ok (.pop, 1) := by decide +kernel
theorem dX0_text_35 : decode cX0_text 35 = .ok (.aload 4, 2) := by decide +kernel
theorem dX0_text_37 : decode cX0_text 37 = .ok (.lload_n 2, 1) := by decide +kernel
theorem dX0_text_38 : decode cX0_text 38 = .ok (.iconst 1, 1) := by decide +kernel
theorem dX0_text_39 : decode cX0_text 39 = .ok (.invokestatic 45, 3) := by decide +kernel
theorem dX0_text_42 : decode cX0_text 42 = .ok (.invokevirtual 87, 3) := by decide +kernel
theorem dX0_text_45 : decode cX0_text 45 = .ok (.bipush 58, 2) := by decide +kernel
theorem dX0_text_47 : decode cX0_text 47 = .ok (.invokevirtual 91, 3) := by decide +kernel
theorem dX0_text_50 : decode cX0_text 50 = .ok (.pop, 1) := by decide +kernel
theorem dX0_text_51 : decode cX0_text 51 = .ok (.aload 4, 2) := by decide +kernel
theorem dX0_text_53 : decode cX0_text 53 = .ok (.lload_n 2, 1) := by decide +kernel
theorem dX0_text_54 : decode cX0_text 54 = .ok (.iconst 2, 1) := by decide +kernel
theorem dX0_text_55 : decode cX0_text 55 = .ok (.invokestatic 45, 3) := by decide +kernel
theorem dX0_text_58 : decode cX0_text 58 = .ok (.invokevirtual 87, 3) := by decide +kernel
theorem dX0_text_61 : decode cX0_text 61 = .ok (.bipush 46, 2) := by decide +kernel
theorem dX0_text_63 : decode cX0_text 63 = .ok (.invokevirtual 91, 3) := by decide +kernel
theorem dX0_text_66 : decode cX0_text 66 = .ok (.pop, 1) := by decide +kernel
theorem dX0_text_67 : decode cX0_text 67 = .ok (.aload 4, 2) := by decide +kernel
theorem dX0_text_69 : decode cX0_text 69 = .ok (.lload_n 2, 1) := by decide +kernel
theorem dX0_text_70 : decode cX0_text 70 = .ok (.iconst 3, 1) := by decide +kernel
theorem dX0_text_71 : decode cX0_text 71 = .ok (.invokestatic 45, 3) := by decide +kernel
theorem dX0_text_74 : decode cX0_text 74 = .ok (.invokevirtual 87, 3) := by decide +kernel
theorem dX0_text_77 : decode cX0_text 77 = .ok (.pop, 1) := by decide +kernel
theorem dX0_text_78 : decode cX0_text 78 = .ok (.aload 4, 2) := by decide +kernel
theorem dX0_text_80 : decode cX0_text 80 = .ok (.invokevirtual 94, 3) := by decide +kernel
theorem dX0_text_83 : decode cX0_text 83 = .ok (.areturn, 1) := by decide +kernel
theorem dX0_beyond_0 : decode cX0_beyond 0 = .ok (.iload_n 1, 1) := by decide +kernel
theorem dX0_beyond_1 : decode cX0_beyond 1 = .ok (.invokestatic 20, 3) := by decide +kernel
theorem dX0_beyond_4 : decode cX0_beyond 4 = .ok (.iload_n 2, 1) := by decide +kernel
theorem dX0_beyond_5 : decode cX0_beyond 5 = .ok (.bipush 7, 2) := by decide +kernel
theorem dX0_beyond_7 : decode cX0_beyond 7 = .ok (.invokestatic 71, 3) := by decide +kernel
theorem dX0_beyond_10 : decode cX0_beyond 10 = .ok (.aload_n 0, 1) := by decide +kernel
theorem dX0_beyond_11 : decode cX0_beyond 11 = .ok (.iload_n 1, 1) := by decide +kernel
theorem dX0_beyond_12 : decode cX0_beyond 12 = .ok (.invokevirtual 41, 3) := by decide +kernel
theorem dX0_beyond_15 : decode cX0_beyond 15 = .ok (.lstore_n 3, 1) := by decide +kernel
theorem dX0_beyond_16 : decode cX0_beyond 16 = .ok (.lload_n 3, 1) := by decide +kernel
theorem dX0_beyond_17 : decode cX0_beyond 17 = .ok (.lload_n 3, 1) := by decide +kernel
theorem dX0_beyond_18 : decode cX0_beyond 18 = .ok (.iload_n 2, 1) := by decide +kernel
theorem dX0_beyond_19 : decode cX0_beyond 19 = .ok (.invokestatic 74, 3) := by decide +kernel
theorem dX0_beyond_22 : decode cX0_beyond 22 = .ok (.lsub, 1) := by decide +kernel
theorem dX0_beyond_23 : decode cX0_beyond 23 = .ok (.invokestatic 80, 3) := by decide +kernel
theorem dX0_beyond_26 : decode cX0_beyond 26 = .ok (.areturn, 1) := by decide +kernel
theorem dX0_compare_0 : decode cX0_compare 0 = .ok (.iload_n 1, 1) := by decide +kernel
theorem dX0_compare_1 : decode cX0_compare 1 = .ok (.invokestatic 20, 3) := by decide +kernel
theorem dX0_compare_4 : decode cX0_compare 4 = .ok (.iload_n 2, 1) := by decide +kernel
theorem dX0_compare_5 : decode cX0_compare 5 = .ok (.invokestatic 20, 3) := by decide +kernel
theorem dX0_compare_8 : decode cX0_compare 8 = .ok (.aload_n 0, 1) := by decide +kernel
theorem dX0_compare_9 : decode cX0_compare 9 = .ok (.iload_n 1, 1) := by decide +kernel
theorem dX0_compare_10 : decode cX0_compare 10 = .ok (.invokevirtual 41, 3) := by decide +kernel
theorem dX0_compare_13 : decode cX0_compare 13 = .ok (.aload_n 0, 1) := by decide +kernel
theorem dX0_compare_14 : decode cX0_compare 14 = .ok (.iload_n 2, 1) := by decide +kernel
theorem dX0_compare_15 : decode cX0_compare 15 = .ok (.invokevirtual 41, 3) := by decide +kernel
theorem dX0_compare_18 : decode cX0_compare 18 = .ok (.invokestatic 98, 3) := by decide +kernel
theorem dX0_compare_21 : decode cX0_compare 21 = .ok (.ireturn, 1) := by decide +kernel
theorem dX0_isAhead_0 : decode cX0_isAhead 0 = .ok (.iload_n 1, 1) := by decide +kernel
theorem dX0_isAhead_1 : decode cX0_isAhead 1 = .ok (.invokestatic 20, 3) := by decide +kernel
theorem dX0_isAhead_4 : decode cX0_isAhead 4 = .ok (.iload_n 2, 1) := by decide +kernel
theorem dX0_isAhead_5 : decode cX0_isAhead 5 = .ok (.invokestatic 20, 3) := by decide +kernel
theorem dX0_isAhead_8 : decode cX0_isAhead 8 = .ok (.aload_n 0, 1) := by decide +kernel
theorem dX0_isAhead_9 : decode cX0_isAhead 9 = .ok (.iload_n 1, 1) := by decide +kernel
theorem dX0_isAhead_10 : decode cX0_isAhead 10 = .ok (.invokevirtual 41, 3) := by decide +kernel
theorem dX0_isAhead_13 : decode cX0_isAhead 13 = .ok (.aload_n 0, 1) := by decide +kernel
theorem dX0_isAhead_14 : decode cX0_isAhead 14 = .ok (.iload_n 2, 1) := by decide +kernel
theorem dX0_isAhead_15 : decode cX0_isAhead 15 = .ok (.invokevirtual 41, 3) := by decide +kernel
theorem dX0_isAhead_18 : decode cX0_isAhead 18 = .ok (.lcmp, 1) := by decide +kernel
theorem dX0_isAhead_19 : decode cX0_isAhead 19 = .ok (.ifCond .ge 7, 3) := by decide +kernel
theorem dX0_isAhead_22 : decode cX0_isAhead 22 = .ok (.iconst 1, 1) := by decide +kernel
theorem dX0_isAhead_23 : decode cX0_isAhead 23 = .ok (.goto 4, 3) := by decide +kernel
theorem dX0_isAhead_26 : decode cX0_isAhead 26 = .ok (.iconst 0, 1) := by decide +kernel
theorem dX0_isAhead_27 : decode cX0_isAhead 27 = .ok (.ireturn, 1) := by decide +kernel
theorem dX0_isBehind_0 : decode cX0_isBehind 0 = .ok (.iload_n 1, 1) := by decide +kernel
theorem dX0_isBehind_1 : decode cX0_isBehind 1 = .ok (.invokestatic 20, 3) := by decide +kernel
theorem dX0_isBehind_4 : decode cX0_isBehind 4 = .ok (.iload_n 2, 1) := by decide +kernel
theorem dX0_isBehind_5 : decode cX0_isBehind 5 = .ok (.invokestatic 20, 3) := by decide +kernel
theorem dX0_isBehind_8 : decode cX0_isBehind 8 = .ok (.aload_n 0, 1) := by decide +kernel
theorem dX0_isBehind_9 : decode cX0_isBehind 9 = .ok (.iload_n 1, 1) := by decide +kernel
theorem dX0_isBehind_10 : decode cX0_isBehind 10 = .ok (.invokevirtual 41, 3) := by decide +kernel
theorem dX0_isBehind_13 : decode cX0_isBehind 13 = .ok (.aload_n 0, 1) := by decide +kernel
theorem dX0_isBehind_14 : decode cX0_isBehind 14 = .ok (.iload_n 2, 1) := by decide +kernel
theorem dX0_isBehind_15 : decode cX0_isBehind 15 = .ok (.invokevirtual 41, 3) := by decide +kernel
theorem dX0_isBehind_18 : decode cX0_isBehind 18 = .ok (.lcmp, 1) := by decide +kernel
theorem dX0_isBehind_19 : decode cX0_isBehind 19 = .ok (.ifCond .le 7, 3) := by decide +kernel
theorem dX0_isBehind_22 : decode cX0_isBehind 22 = .ok (.iconst 1, 1) := by decide +kernel
theorem dX0_isBehind_23 : decode cX0_isBehind 23 = .ok (.goto 4, 3) := by decide +kernel
theorem dX0_isBehind_26 : decode cX0_isBehind 26 = .ok (.iconst 0, 1) := by decide +kernel
theorem dX0_isBehind_27 : decode cX0_isBehind 27 = .ok (.ireturn, 1) := by decide +kernel
theorem dX0_areAlike_0 : decode cX0_areAlike 0 = .ok (.iload_n 1, 1) := by decide +kernel
theorem dX0_areAlike_1 : decode cX0_areAlike 1 = .ok (.invokestatic 20, 3) := by decide +kernel
theorem dX0_areAlike_4 : decode cX0_areAlike 4 = .ok (.iload_n 2, 1) := by decide +kernel
theorem dX0_areAlike_5 : decode cX0_areAlike 5 = .ok (.invokestatic 20, 3) := by decide +kernel
theorem dX0_areAlike_8 : decode cX0_areAlike 8 = .ok (.aload_n 0, 1) := by decide +kernel
theorem dX0_areAlike_9 : decode cX0_areAlike 9 = .ok (.iload_n 1, 1) := by decide +kernel
theorem dX0_areAlike_10 : decode cX0_areAlike 10 = .ok (.invokevirtual 41, 3) := by decide +kernel
theorem dX0_areAlike_13 : decode cX0_areAlike 13 = .ok (.aload_n 0, 1) := by decide +kernel
theorem dX0_areAlike_14 : decode cX0_areAlike 14 = .ok (.iload_n 2, 1) := by decide +kernel
theorem dX0_areAlike_15 : decode cX0_areAlike 15 = .ok (.invokevirtual 41, 3) := by decide +kernel
theorem dX0_areAlike_18 : decode cX0_areAlike 18 = .ok (.lcmp, 1) := by decide +kernel
theorem dX0_areAlike_19 : decode cX0_areAlike 19 = .ok (.ifCond .ne 7, 3) := by decide +kernel
theorem dX0_areAlike_22 : decode cX0_areAlike 22 = .ok (.iconst 1, 1) := by decide +kernel
theorem dX0_areAlike_23 : decode cX0_areAlike 23 = .ok (.goto 4, 3) := by decide +kernel
theorem dX0_areAlike_26 : decode cX0_areAlike 26 = .ok (.iconst 0, 1) := by decide +kernel
theorem dX0_areAlike_27 : decode cX0_areAlike 27 = .ok (.ireturn, 1) := by decide +kernel
theorem dX0_between_0 : decode cX0_between 0 = .ok (.iload_n 1, 1) := by decide +kernel
theorem dX0_between_1 : decode cX0_between 1 = .ok (.invokestatic 20, 3) := by decide +kernel
theorem dX0_between_4 : decode cX0_between 4 = .ok (.iload_n 2, 1) := by decide +kernel
theorem dX0_between_5 : decode cX0_between 5 = .ok (.invokestatic 20, 3) := by decide +kernel
theorem dX0_between_8 : decode cX0_between 8 = .ok (.iload_n 3, 1) := by decide +kernel
theorem dX0_between_9 : decode cX0_between 9 = .ok (.bipush 6, 2) := by decide +kernel
theorem dX0_between_11 : decode cX0_between 11 = .ok (.invokestatic 71, 3) := by decide +kernel
theorem dX0_between_14 : decode cX0_between 14 = .ok (.aload_n 0, 1) := by decide +kernel
theorem dX0_between_15 : decode cX0_between 15 = .ok (.iload_n 1, 1) := by decide +kernel
theorem dX0_between_16 : decode cX0_between 16 = .ok (.invokevirtual 41, 3) := by decide +kernel
theorem dX0_between_19 : decode cX0_between 19 = .ok (.aload_n 0, 1) := by decide +kernel
theorem dX0_between_20 : decode cX0_between 20 = .ok (.iload_n 2, 1) := by decide +kernel
theorem dX0_between_21 : decode cX0_between 21 = .ok (.invokevirtual 41, 3) := by decide +kernel
theorem dX0_between_24 : decode cX0_between 24 = .ok (.iload_n 3, 1) := by decide +kernel
theorem dX0_between_25 : decode cX0_between 25 = .ok (.invokestatic 102, 3) := by decide +kernel
theorem dX0_between_28 : decode cX0_between 28 = .ok (.invokestatic 80, 3) := by decide +kernel
theorem dX0_between_31 : decode cX0_between 31 = .ok (.areturn, 1) := by decide +kernel
theorem dX0_order_0 : decode cX0_order 0 = .ok (.new 84, 3) := by decide +kernel
theorem dX0_order_3 : decode cX0_order 3 = .ok (.dup, 1) := by decide +kernel
theorem dX0_order_4 : decode cX0_order 4 = .ok (.invokespecial 86, 3) := by decide +kernel
theorem dX0_order_7 : decode cX0_order 7 = .ok (.astore_n 1, 1) := by decide +kernel
theorem dX0_order_8 : decode cX0_order 8 = .ok (.iconst 0, 1) := by decide +kernel
theorem dX0_order_9 : decode cX0_order 9 = .ok (.istore_n 2, 1) := by decide +kernel
theorem dX0_order_10 : decode cX0_order 10 = .ok (.iload_n 2, 1) := by decide +kernel
theorem dX0_order_11 : decode cX0_order 11 = .ok (.bipush 8, 2) := by decide +kernel
theorem dX0_order_13 : decode cX0_order 13 = .ok (.if_icmp .ge 30, 3) := by decide +kernel
theorem dX0_order_16 : decode cX0_order 16 = .ok (.iload_n 2, 1) := by decide +kernel
theorem dX0_order_17 : decode cX0_order 17 = .ok (.ifCond .le 10, 3) := by decide +kernel
theorem dX0_order_20 : decode cX0_order 20 = .ok (.aload_n 1, 1) := by decide +kernel
theorem dX0_order_21 : decode cX0_order 21 = .ok (.bipush 32, 2) := by decide +kernel
theorem dX0_order_23 : decode cX0_order 23 = .ok (.invokevirtual 91, 3) := by decide +kernel
theorem dX0_order_26 : decode cX0_order 26 = .ok (.pop, 1) := by decide +kernel
theorem dX0_order_27 : decode cX0_order 27 = .ok (.aload_n 1, 1) := by decide +kernel
theorem dX0_order_28 : decode cX0_order 28 = .ok (.aload_n 0, 1) := by decide +kernel
theorem dX0_order_29 : decode cX0_order 29 = .ok (.iload_n 2, 1) := by decide +kernel
theorem dX0_order_30 : decode cX0_order 30 = .ok (.invokevirtual 106, 3) := by decide +kernel
theorem dX0_order_33 : decode cX0_order 33 = .ok (.invokevirtual 87, 3) := by decide +kernel
theorem dX0_order_36 : decode cX0_order 36 = .ok (.pop, 1) := by decide +kernel
theorem dX0_order_37 : decode cX0_order 37 = .ok (.iinc 2 1, 3) := by decide +kernel
theorem dX0_order_40 : decode cX0_order 40 = .ok (.goto (-30), 3) := by decide +kernel
theorem dX0_order_43 : decode cX0_order 43 = .ok (.aload_n 1, 1) := by decide +kernel
theorem dX0_order_44 : decode cX0_order 44 = .ok (.invokevirtual 94, 3) := by decide +kernel
theorem dX0_order_47 : decode cX0_order 47 = .ok (.areturn, 1) := by decide +kernel
theorem dX0_kinds_0 : decode cX0_kinds 0 = .ok (.iconst 0, 1) := by decide +kernel
theorem dX0_kinds_1 : decode cX0_kinds 1 = .ok (.istore_n 1, 1) := by decide +kernel
theorem dX0_kinds_2 : decode cX0_kinds 2 = .ok (.iconst 0, 1) := by decide +kernel
theorem dX0_kinds_3 : decode cX0_kinds 3 = .ok (.istore_n 2, 1) := by decide +kernel
theorem dX0_kinds_4 : decode cX0_kinds 4 = .ok (.iload_n 2, 1) := by decide +kernel
theorem dX0_kinds_5 : decode cX0_kinds 5 = .ok (.bipush 8, 2) := by decide +kernel
theorem dX0_kinds_7 : decode cX0_kinds 7 = .ok (.if_icmp .ge 20, 3) := by decide +kernel
theorem dX0_kinds_10 : decode cX0_kinds 10 = .ok (.aload_n 0, 1) := by decide +kernel
theorem dX0_kinds_11 : decode cX0_kinds 11 = .ok (.iload_n 2, 1) := by decide +kernel
theorem dX0_kinds_12 : decode cX0_kinds 12 = .ok (.invokevirtual 110, 3) := by decide +kernel
theorem dX0_kinds_15 : decode cX0_kinds 15 = .ok (.ifCond .eq 6, 3) := by decide +kernel
theorem dX0_kinds_18 : decode cX0_kinds 18 = .ok (.iinc 1 1, 3) := by decide +kernel
theorem dX0_kinds_21 : decode cX0_kinds 21 = .ok (.iinc 2 1, 3) := by decide +kernel
theorem dX0_kinds_24 : decode cX0_kinds 24 = .ok (.goto (-20), 3) := by decide +kernel
theorem dX0_kinds_27 : decode cX0_kinds 27 = .ok (.iload_n 1, 1) := by decide +kernel
theorem dX0_kinds_28 : decode cX0_kinds 28 = .ok (.ireturn, 1) := by decide +kernel
theorem dX0_knock_0 : decode cX0_knock 0 = .ok (.aload_n 0, 1) := by decide +kernel
theorem dX0_knock_1 : decode cX0_knock 1 = .ok (.dup, 1) := by decide +kernel
theorem dX0_knock_2 : decode cX0_knock 2 = .ok (.getfield 13, 3) := by decide +kernel
theorem dX0_knock_5 : decode cX0_knock 5 = .ok (.iconst 1, 1) := by decide +kernel
theorem dX0_knock_6 : decode cX0_knock 6 = .ok (.iadd, 1) := by decide +kernel
theorem dX0_knock_7 : decode cX0_knock 7 = .ok (.putfield 13, 3) := by decide +kernel
theorem dX0_knock_10 : decode cX0_knock 10 = .ok (.aload_n 0, 1) := by decide +kernel
theorem dX0_knock_11 : decode cX0_knock 11 = .ok (.getfield 13, 3) := by decide +kernel
theorem dX0_knock_14 : decode cX0_knock 14 = .ok (.ireturn, 1) := by decide +kernel
theorem dX0_house_0 : decode cX0_house 0 = .ok (.iload_n 1, 1) := by decide +kernel
theorem dX0_house_1 : decode cX0_house 1 = .ok (.ifCond .ne 8, 3) := by decide +kernel
theorem dX0_house_4 : decode cX0_house 4 = .ok (.aload_n 0, 1) := by decide +kernel
theorem dX0_house_5 : decode cX0_house 5 = .ok (.getfield 13, 3) := by decide +kernel
theorem dX0_house_8 : decode cX0_house 8 = .ok (.ireturn, 1) := by decide +kernel
theorem dX0_house_9 : decode cX0_house 9 = .ok (.iload_n 1, 1) := by decide +kernel
theorem dX0_house_10 : decode cX0_house 10 = .ok (.iconst 1, 1) := by decide +kernel
theorem dX0_house_11 : decode cX0_house 11 = .ok (.if_icmp .ne 8, 3) := by decide +kernel
theorem dX0_house_14 : decode cX0_house 14 = .ok (.aload_n 0, 1) := by decide +kernel
theorem dX0_house_15 : decode cX0_house 15 = .ok (.getfield 17, 3) := by decide +kernel
theorem dX0_house_18 : decode cX0_house 18 = .ok (.ireturn, 1) := by decide +kernel
theorem dX0_house_19 : decode cX0_house 19 = .ok (.new 52, 3) := by decide +kernel
theorem dX0_house_22 : decode cX0_house 22 = .ok (.dup, 1) := by decide +kernel
theorem dX0_house_23 : decode cX0_house 23 = .ok (.ldc 114, 2) := by decide +kernel
theorem dX0_house_25 : decode cX0_house 25 = .ok (.invokespecial 56, 3) := by decide +kernel
theorem dX0_house_28 : decode cX0_house 28 = .ok (.athrow, 1) := by decide +kernel
theorem dX0_isSound_0 : decode cX0_isSound 0 = .ok (.iconst 0, 1) := by decide +kernel
theorem dX0_isSound_1 : decode cX0_isSound 1 = .ok (.istore_n 1, 1) := by decide +kernel
theorem dX0_isSound_2 : decode cX0_isSound 2 = .ok (.iload_n 1, 1) := by decide +kernel
theorem dX0_isSound_3 : decode cX0_isSound 3 = .ok (.bipush 8, 2) := by decide +kernel
theorem dX0_isSound_5 : decode cX0_isSound 5 = .ok (.if_icmp .ge 69, 3) := by decide +kernel
theorem dX0_isSound_8 : decode cX0_isSound 8 = .ok (.aload_n 0, 1) := by decide +kernel
theorem dX0_isSound_9 : decode cX0_isSound 9 = .ok (.iload_n 1, 1) := by decide +kernel
theorem dX0_isSound_10 : decode cX0_isSound 10 = .ok (.invokevirtual 41, 3) := by decide +kernel
theorem dX0_isSound_13 : decode cX0_isSound 13 = .ok (.lstore_n 2, 1) := by decide +kernel
theorem dX0_isSound_14 : decode cX0_isSound 14 = .ok (.lload_n 2, 1) := by decide +kernel
theorem dX0_isSound_15 : decode cX0_isSound 15 = .ok (.invokestatic 116, 3) := by decide +kernel
theorem dX0_isSound_18 : decode cX0_isSound 18 = .ok (.ifCond .eq 17, 3) := by decide +kernel
theorem dX0_isSound_21 : decode cX0_isSound 21 = .ok (.lload_n 2, 1) := by decide +kernel
theorem dX0_isSound_22 : decode cX0_isSound 22 = .ok (.invokestatic 120, 3) := by decide +kernel
theorem dX0_isSound_25 : decode cX0_isSound 25 = .ok (.ifCond .eq 10, 3) := by decide +kernel
theorem dX0_isSound_28 : decode cX0_isSound 28 = .ok (.lload_n 2, 1) := by decide +kernel
theorem dX0_isSound_29 : decode cX0_isSound 29 = .ok (.invokestatic 123, 3) := by decide +kernel
theorem dX0_isSound_32 : decode cX0_isSound 32 = .ok (.ifCond .ne 5, 3) := by decide +kernel
theorem dX0_isSound_35 : decode cX0_isSound 35 = .ok (.iconst 0, 1) := by decide +kernel
theorem dX0_isSound_36 : decode cX0_isSound 36 = .ok (.ireturn, 1) := by decide +kernel
theorem dX0_isSound_37 : decode cX0_isSound 37 = .ok (.iconst 0, 1) := by decide +kernel
theorem dX0_isSound_38 : decode cX0_isSound 38 = .ok (.istore 4, 2) := by decide +kernel
theorem dX0_isSound_40 : decode cX0_isSound 40 = .ok (.iload 4, 2) := by decide +kernel
theorem dX0_isSound_42 : decode cX0_isSound 42 = .ok (.bipush 8, 2) := by decide +kernel
theorem dX0_isSound_44 : decode cX0_isSound 44 = .ok (.if_icmp .ge 24, 3) := by decide +kernel
theorem dX0_isSound_47 : decode cX0_isSound 47 = .ok (.lload_n 2, 1) := by decide +kernel
theorem dX0_isSound_48 : decode cX0_isSound 48 = .ok (.aload_n 0, 1) := by decide +kernel
theorem dX0_isSound_49 : decode cX0_isSound 49 = .ok (.iload 4, 2) := by decide +kernel
theorem dX0_isSound_51 : decode cX0_isSound 51 = .ok (.invokevirtual 41, 3) := by decide +kernel
theorem dX0_isSound_54 : decode cX0_isSound 54 = .ok (.invokestatic 126, 3) := by decide +kernel
theorem dX0_isSound_57 : decode cX0_isSound 57 = .ok (.ifCond .ne 5, 3) := by decide +kernel
theorem dX0_isSound_60 : decode cX0_isSound 60 = .ok (.iconst 0, 1) := by decide +kernel
theorem dX0_isSound_61 : decode cX0_isSound 61 = .ok (.ireturn, 1) := by decide +kernel
theorem dX0_isSound_62 : decode cX0_isSound 62 = .ok (.iinc 4 1, 3) := by decide +kernel
theorem dX0_isSound_65 : decode cX0_isSound 65 = .ok (.goto (-25), 3) := by decide +kernel
theorem dX0_isSound_68 : decode cX0_isSound 68 = .ok (.iinc 1 1, 3) := by decide +kernel
theorem dX0_isSound_71 : decode cX0_isSound 71 = .ok (.goto (-69), 3) := by decide +kernel
theorem dX0_isSound_74 : decode cX0_isSound 74 = .ok (.iconst 1, 1) := by decide +kernel
theorem dX0_isSound_75 : decode cX0_isSound 75 = .ok (.ireturn, 1) := by decide +kernel
theorem dX0_digest_0 : decode cX0_digest 0 = .ok (.ldc2_w 130, 3) := by decide +kernel
theorem dX0_digest_3 : decode cX0_digest 3 = .ok (.lstore_n 1, 1) := by decide +kernel
theorem dX0_digest_4 : decode cX0_digest 4 = .ok (.lload_n 1, 1) := by decide +kernel
theorem dX0_digest_5 : decode cX0_digest 5 = .ok (.ldc2_w 132, 3) := by decide +kernel
theorem dX0_digest_8 : decode cX0_digest 8 = .ok (.lmul, 1) := by decide +kernel
theorem dX0_digest_9 : decode cX0_digest 9 = .ok (.aload_n 0, 1) := by decide +kernel
theorem dX0_digest_10 : decode cX0_digest 10 = .ok (.getfield 13, 3) := by decide +kernel
theorem dX0_digest_13 : decode cX0_digest 13 = .ok (.i2l, 1) := by decide +kernel
theorem dX0_digest_14 : decode cX0_digest 14 = .ok (.ladd, 1) := by decide +kernel
theorem dX0_digest_15 : decode cX0_digest 15 = .ok (.lstore_n 1, 1) := by decide +kernel
theorem dX0_digest_16 : decode cX0_digest 16 = .ok (.lload_n 1, 1) := by decide +kernel
theorem dX0_digest_17 : decode cX0_digest 17 = .ok (.ldc2_w 132, 3) := by decide +kernel
theorem dX0_digest_20 : decode cX0_digest 20 = .ok (.lmul, 1) := by decide +kernel
theorem dX0_digest_21 : decode cX0_digest 21 = .ok (.aload_n 0, 1) := by decide +kernel
theorem dX0_digest_22 : decode cX0_digest 22 = .ok (.getfield 17, 3) := by decide +kernel
theorem dX0_digest_25 : decode cX0_digest 25 = .ok (.i2l, 1) := by decide +kernel
theorem dX0_digest_26 : decode cX0_digest 26 = .ok (.ladd, 1) := by decide +kernel
theorem dX0_digest_27 : decode cX0_digest 27 = .ok (.lstore_n 1, 1) := by decide +kernel
theorem dX0_digest_28 : decode cX0_digest 28 = .ok (.iconst 0, 1) := by decide +kernel
theorem dX0_digest_29 : decode cX0_digest 29 = .ok (.istore_n 3, 1) := by decide +kernel
theorem dX0_digest_30 : decode cX0_digest 30 = .ok (.iload_n 3, 1) := by decide +kernel
theorem dX0_digest_31 : decode cX0_digest 31 = .ok (.bipush 8, 2) := by decide +kernel
theorem dX0_digest_33 : decode cX0_digest 33 = .ok (.if_icmp .ge 19, 3) := by decide +kernel
theorem dX0_digest_36 : decode cX0_digest 36 = .ok (.lload_n 1, 1) := by decide +kernel
theorem dX0_digest_37 : decode cX0_digest 37 = .ok (.aload_n 0, 1) := by decide +kernel
theorem dX0_digest_38 : decode cX0_digest 38 = .ok (.iload_n 3, 1) := by decide +kernel
theorem dX0_digest_39 : decode cX0_digest 39 = .ok (.invokevirtual 41, 3) := by decide +kernel
theorem dX0_digest_42 : decode cX0_digest 42 = .ok (.invokestatic 134, 3) := by decide +kernel
theorem dX0_digest_45 : decode cX0_digest 45 = .ok (.lstore_n 1, 1) := by decide +kernel
theorem dX0_digest_46 : decode cX0_digest 46 = .ok (.iinc 3 1, 3) := by decide +kernel
theorem dX0_digest_49 : decode cX0_digest 49 = .ok (.goto (-19), 3) := by decide +kernel
theorem dX0_digest_52 : decode cX0_digest 52 = .ok (.iconst 0, 1) := by decide +kernel
theorem dX0_digest_53 : decode cX0_digest 53 = .ok (.istore_n 3, 1) := by decide +kernel
theorem dX0_digest_54 : decode cX0_digest 54 = .ok (.iload_n 3, 1) := by decide +kernel
theorem dX0_digest_55 : decode cX0_digest 55 = .ok (.bipush 8, 2) := by decide +kernel
theorem dX0_digest_57 : decode cX0_digest 57 = .ok (.if_icmp .ge 24, 3) := by decide +kernel
theorem dX0_digest_60 : decode cX0_digest 60 = .ok (.lload_n 1, 1) := by decide +kernel
theorem dX0_digest_61 : decode cX0_digest 61 = .ok (.aload_n 0, 1) := by decide +kernel
theorem dX0_digest_62 : decode cX0_digest 62 = .ok (.iconst 0, 1) := by decide +kernel
theorem dX0_digest_63 : decode cX0_digest 63 = .ok (.invokevirtual 41, 3) := by decide +kernel
theorem dX0_digest_66 : decode cX0_digest 66 = .ok (.aload_n 0, 1) := by decide +kernel
theorem dX0_digest_67 : decode cX0_digest 67 = .ok (.iload_n 3, 1) := by decide +kernel
theorem dX0_digest_68 : decode cX0_digest 68 = .ok (.invokevirtual 41, 3) := by decide +kernel
theorem dX0_digest_71 : decode cX0_digest 71 = .ok (.invokestatic 138, 3) := by decide +kernel
theorem dX0_digest_74 : decode cX0_digest 74 = .ok (.lstore_n 1, 1) := by decide +kernel
theorem dX0_digest_75 : decode cX0_digest 75 = .ok (.iinc 3 1, 3) := by decide +kernel
theorem dX0_digest_78 : decode cX0_digest 78 = .ok (.goto (-24), 3) := by decide +kernel
theorem dX0_digest_81 : decode cX0_digest 81 = .ok (.lload_n 1, 1) := by decide +kernel
theorem dX0_digest_82 : decode cX0_digest 82 = .ok (.ldc2_w 132, 3) := by decide +kernel
theorem dX0_digest_85 : decode cX0_digest 85 = .ok (.lmul, 1) := by decide +kernel
theorem dX0_digest_86 : decode cX0_digest 86 = .ok (.aload_n 0, 1) := by decide +kernel
theorem dX0_digest_87 : decode cX0_digest 87 = .ok (.invokevirtual 142, 3) := by decide +kernel
theorem dX0_digest_90 : decode cX0_digest 90 = .ok (.i2l, 1) := by decide +kernel
theorem dX0_digest_91 : decode cX0_digest 91 = .ok (.ladd, 1) := by decide +kernel
theorem dX0_digest_92 : decode cX0_digest 92 = .ok (.lstore_n 1, 1) := by decide +kernel
theorem dX0_digest_93 : decode cX0_digest 93 = .ok (.aload_n 0, 1) := by decide +kernel
theorem dX0_digest_94 : decode cX0_digest 94 = .ok (.invokevirtual 146, 3) := by decide +kernel
theorem dX0_digest_97 : decode cX0_digest 97 = .ok (.astore_n 3, 1) := by decide +kernel
theorem dX0_digest_98 : decode cX0_digest 98 = .ok (.iconst 0, 1) := by decide +kernel
theorem dX0_digest_99 : decode cX0_digest 99 = .ok (.istore 4, 2) := by decide +kernel
theorem dX0_digest_101 : decode cX0_digest 101 = .ok (.iload 4, 2) := by decide +kernel
theorem dX0_digest_103 : decode cX0_digest 103 = .ok (.aload_n 3, 1) := by decide +kernel
theorem dX0_digest_104 : decode cX0_digest 104 = .ok (.invokevirtual 149, 3) := by decide +kernel
theorem dX0_digest_107 : decode cX0_digest 107 = .ok (.if_icmp .ge 23, 3) := by decide +kernel
theorem dX0_digest_110 : decode cX0_digest 110 = .ok (.lload_n 1, 1) := by decide +kernel
theorem dX0_digest_111 : decode cX0_digest 111 = .ok (.ldc2_w 132, 3) := by decide +kernel
theorem dX0_digest_114 : decode cX0_digest 114 = .ok (.lmul, 1) := by decide +kernel
theorem dX0_digest_115 : decode cX0_digest 115 = .ok (.aload_n 3, 1) := by decide +kernel
theorem dX0_digest_116 : decode cX0_digest 116 = .ok (.iload 4, 2) := by decide +kernel
theorem dX0_digest_118 : decode cX0_digest 118 = .ok (.invokevirtual 154, 3) := by decide +kernel
theorem dX0_digest_121 : decode cX0_digest 121 = .ok (.i2l, 1) := by decide +kernel
theorem dX0_digest_122 : decode cX0_digest 122 = .ok (.ladd, 1) := by decide +kernel
theorem dX0_digest_123 : decode cX0_digest 123 = .ok (.lstore_n 1, 1) := by decide +kernel
theorem dX0_digest_124 : decode cX0_digest 124 = .ok (.iinc 4 1, 3) := by decide +kernel
theorem dX0_digest_127 : decode cX0_digest 127 = .ok (.goto (-26), 3) := by decide +kernel
theorem dX0_digest_130 : decode cX0_digest 130 = .ok (.lload_n 1, 1) := by decide +kernel
theorem dX0_digest_131 : decode cX0_digest 131 = .ok (.ldc2_w 132, 3) := by decide +kernel
theorem dX0_digest_134 : decode cX0_digest 134 = .ok (.lmul, 1) := by decide +kernel
theorem dX0_digest_135 : decode cX0_digest 135 = .ok (.aload_n 0, 1) := by decide +kernel
theorem dX0_digest_136 : decode cX0_digest 136 = .ok (.invokevirtual 158, 3) := by decide +kernel
theorem dX0_digest_139 : decode cX0_digest 139 = .ok (.ifCond .eq 7, 3) := by decide +kernel
theorem dX0_digest_142 : decode cX0_digest 142 = .ok (.iconst 1, 1) := by decide +kernel
theorem dX0_digest_143 : decode cX0_digest 143 = .ok (.goto 4, 3) := by decide +kernel
theorem dX0_digest_146 : decode cX0_digest 146 = .ok (.iconst 0, 1) := by decide +kernel
theorem dX0_digest_147 : decode cX0_digest 147 = .ok (.i2l, 1) := by decide +kernel
theorem dX0_digest_148 : decode cX0_digest 148 = .ok (.ladd, 1) := by decide +kernel
theorem dX0_digest_149 : decode cX0_digest 149 = .ok (.lreturn, 1) := by decide +kernel
theorem dX0_needClock_0 : decode cX0_needClock 0 = .ok (.iload_n 0, 1) := by decide +kernel
theorem dX0_needClock_1 : decode cX0_needClock 1 = .ok (.ifCond .lt 9, 3) := by decide +kernel
theorem dX0_needClock_4 : decode cX0_needClock 4 = .ok (.iload_n 0, 1) := by decide +kernel
theorem dX0_needClock_5 : decode cX0_needClock 5 = .ok (.bipush 8, 2) := by decide +kernel
theorem dX0_needClock_7 : decode cX0_needClock 7 = .ok (.if_icmp .lt 13, 3) := by decide +kernel
theorem dX0_needClock_10 : decode cX0_needClock 10 = .ok (.new 162, 3) := by decide +kernel
theorem dX0_needClock_13 : decode cX0_needClock 13 = .ok (.dup, 1) := by decide +kernel
theorem dX0_needClock_14 : decode cX0_needClock 14 = .ok (.ldc 164, 2) := by decide +kernel
theorem dX0_needClock_16 : decode cX0_needClock 16 = .ok (.invokespecial 166, 3) := by decide +kernel
theorem dX0_needClock_19 : decode cX0_needClock 19 = .ok (.athrow, 1) := by decide +kernel
theorem dX0_needClock_20 : decode cX0_needClock 20 = .ok (.return_, 1) := by decide +kernel
theorem dX0_needPart_0 : decode cX0_needPart 0 = .ok (.iload_n 0, 1) := by decide +kernel
theorem dX0_needPart_1 : decode cX0_needPart 1 = .ok (.ifCond .lt 11, 3) := by decide +kernel
theorem dX0_needPart_4 : decode cX0_needPart 4 = .ok (.iload_n 0, 1) := by decide +kernel
theorem dX0_needPart_5 : decode cX0_needPart 5 = .ok (.getstatic 167, 3) := by decide +kernel
theorem dX0_needPart_8 : decode cX0_needPart 8 = .ok (.arraylength, 1) := by decide +kernel
theorem dX0_needPart_9 : decode cX0_needPart 9 = .ok (.if_icmp .lt 13, 3) := by decide +kernel
theorem dX0_needPart_12 : decode cX0_needPart 12 = .ok (.new 52, 3) := by decide +kernel
theorem dX0_needPart_15 : decode cX0_needPart 15 = .ok (.dup, 1) := by decide +kernel
theorem dX0_needPart_16 : decode cX0_needPart 16 = .ok (.ldc 171, 2) := by decide +kernel
theorem dX0_needPart_18 : decode cX0_needPart 18 = .ok (.invokespecial 56, 3) := by decide +kernel
theorem dX0_needPart_21 : decode cX0_needPart 21 = .ok (.athrow, 1) := by decide +kernel
theorem dX0_needPart_22 : decode cX0_needPart 22 = .ok (.iload_n 1, 1) := by decide +kernel
theorem dX0_needPart_23 : decode cX0_needPart 23 = .ok (.ifCond .lt 12, 3) := by decide +kernel
theorem dX0_needPart_26 : decode cX0_needPart 26 = .ok (.iload_n 1, 1) := by decide +kernel
theorem dX0_needPart_27 : decode cX0_needPart 27 = .ok (.getstatic 167, 3) := by decide +kernel
theorem dX0_needPart_30 : decode cX0_needPart 30 = .ok (.iload_n 0, 1) := by decide +kernel
theorem dX0_needPart_31 : decode cX0_needPart 31 = .ok (.iaload, 1) := by decide +kernel
theorem dX0_needPart_32 : decode cX0_needPart 32 = .ok (.if_icmp .lt 13, 3) := by decide +kernel
theorem dX0_needPart_35 : decode cX0_needPart 35 = .ok (.new 52, 3) := by decide +kernel
theorem dX0_needPart_38 : decode cX0_needPart 38 = .ok (.dup, 1) := by decide +kernel
theorem dX0_needPart_39 : decode cX0_needPart 39 = .ok (.ldc 173, 2) := by decide +kernel
theorem dX0_needPart_41 : decode cX0_needPart 41 = .ok (.invokespecial 56, 3) := by decide +kernel
theorem dX0_needPart_44 : decode cX0_needPart 44 = .ok (.athrow, 1) := by decide +kernel
theorem dX0_needPart_45 : decode cX0_needPart 45 = .ok (.return_, 1) := by decide +kernel
theorem dX0_needSecondOfDay_0 : decode cX0_needSecondOfDay 0 = .ok (.iload_n 0, 1) := by decide +kernel
theorem dX0_needSecondOfDay_1 : decode cX0_needSecondOfDay 1 = .ok (.ifCond .lt 9, 3) := by decide +kernel
theorem dX0_needSecondOfDay_4 : decode cX0_needSecondOfDay 4 = .ok (.iload_n 0, 1) := by decide +kernel
theorem dX0_needSecondOfDay_5 : decode cX0_needSecondOfDay 5 = .ok (.ldc 175, 2) := by decide +kernel
theorem dX0_needSecondOfDay_7 : decode cX0_needSecondOfDay 7 = .ok (.if_icmp .lt 13, 3) := by decide +kernel
theorem dX0_needSecondOfDay_10 : decode cX0_needSecondOfDay 10 = .ok (.new 52, 3) := by decide +kernel
theorem dX0_needSecondOfDay_13 : decode cX0_needSecondOfDay 13 = .ok (.dup, 1) := by decide +kernel
theorem dX0_needSecondOfDay_14 : decode cX0_needSecondOfDay 14 = .ok (.ldc 176, 2) := by decide +kernel
theorem dX0_needSecondOfDay_16 : decode cX0_needSecondOfDay 16 = .ok (.invokespecial 56, 3) := by decide +kernel
theorem dX0_needSecondOfDay_19 : decode cX0_needSecondOfDay 19 = .ok (.athrow, 1) := by decide +kernel
theorem dX0_needSecondOfDay_20 : decode cX0_needSecondOfDay 20 = .ok (.return_, 1) := by decide +kernel
theorem dX0_needUnit_0 : decode cX0_needUnit 0 = .ok (.iload_n 0, 1) := by decide +kernel
theorem dX0_needUnit_1 : decode cX0_needUnit 1 = .ok (.ifCond .lt 8, 3) := by decide +kernel
theorem dX0_needUnit_4 : decode cX0_needUnit 4 = .ok (.iload_n 0, 1) := by decide +kernel
theorem dX0_needUnit_5 : decode cX0_needUnit 5 = .ok (.iload_n 1, 1) := by decide +kernel
theorem dX0_needUnit_6 : decode cX0_needUnit 6 = .ok (.if_icmp .le 13, 3) := by decide +kernel
theorem dX0_needUnit_9 : decode cX0_needUnit 9 = .ok (.new 52, 3) := by decide +kernel
theorem dX0_needUnit_12 : decode cX0_needUnit 12 = .ok (.dup, 1) := by decide +kernel
theorem dX0_needUnit_13 : decode cX0_needUnit 13 = .ok (.ldc 178, 2) := by decide +kernel
theorem dX0_needUnit_15 : decode cX0_needUnit 15 = .ok (.invokespecial 56, 3) := by decide +kernel
theorem dX0_needUnit_18 : decode cX0_needUnit 18 = .ok (.athrow, 1) := by decide +kernel
theorem dX0_needUnit_19 : decode cX0_needUnit 19 = .ok (.return_, 1) := by decide +kernel
theorem dX0_needStepUnit_0 : decode cX0_needStepUnit 0 = .ok (.iload_n 0, 1) := by decide +kernel
theorem dX0_needStepUnit_1 : decode cX0_needStepUnit 1 = .ok (.invokestatic 180, 3) := by decide +kernel
theorem dX0_needStepUnit_4 : decode cX0_needStepUnit 4 = .ok (.ifCond .ne 13, 3) := by decide +kernel
theorem dX0_needStepUnit_7 : decode cX0_needStepUnit 7 = .ok (.new 52, 3) := by decide +kernel
theorem dX0_needStepUnit_10 : decode cX0_needStepUnit 10 = .ok (.dup, 1) := by decide +kernel
theorem dX0_needStepUnit_11 : decode cX0_needStepUnit 11 = .ok (.ldc 183, 2) := by decide +kernel
theorem dX0_needStepUnit_13 : decode cX0_needStepUnit 13 = .ok (.invokespecial 56, 3) := by decide +kernel
theorem dX0_needStepUnit_16 : decode cX0_needStepUnit 16 = .ok (.athrow, 1) := by decide +kernel
theorem dX0_needStepUnit_17 : decode cX0_needStepUnit 17 = .ok (.return_, 1) := by decide +kernel
theorem dX0_isStepUnit_0 : decode cX0_isStepUnit 0 = .ok (.iload_n 0, 1) := by decide +kernel
theorem dX0_isStepUnit_1 : decode cX0_isStepUnit 1 = .ok (.ifCond .eq 13, 3) := by decide +kernel
theorem dX0_isStepUnit_4 : decode cX0_isStepUnit 4 = .ok (.iload_n 0, 1) := by decide +kernel
theorem dX0_isStepUnit_5 : decode cX0_isStepUnit 5 = .ok (.iconst 3, 1) := by decide +kernel
theorem dX0_isStepUnit_6 : decode cX0_isStepUnit 6 = .ok (.if_icmp .lt 12, 3) := by decide +kernel
theorem dX0_isStepUnit_9 : decode cX0_isStepUnit 9 = .ok (.iload_n 0, 1) := by decide +kernel
theorem dX0_isStepUnit_10 : decode cX0_isStepUnit 10 = .ok (.iconst 5, 1) := by decide +kernel
theorem dX0_isStepUnit_11 : decode cX0_isStepUnit 11 = .ok (.if_icmp .gt 7, 3) := by decide +kernel
theorem dX0_isStepUnit_14 : decode cX0_isStepUnit 14 = .ok (.iconst 1, 1) := by decide +kernel
theorem dX0_isStepUnit_15 : decode cX0_isStepUnit 15 = .ok (.goto 4, 3) := by decide +kernel
theorem dX0_isStepUnit_18 : decode cX0_isStepUnit 18 = .ok (.iconst 0, 1) := by decide +kernel
theorem dX0_isStepUnit_19 : decode cX0_isStepUnit 19 = .ok (.ireturn, 1) := by decide +kernel
theorem dX0_numberOf_0 : decode cX0_numberOf 0 = .ok (.iload_n 1, 1) := by decide +kernel
theorem dX0_numberOf_1 : decode cX0_numberOf 1 = .ok (.ifCond .lt 21, 3) := by decide +kernel
theorem dX0_numberOf_4 : decode cX0_numberOf 4 = .ok (.iload_n 1, 1) := by decide +kernel
theorem dX0_numberOf_5 : decode cX0_numberOf 5 = .ok (.aload_n 0, 1) := by decide +kernel
theorem dX0_numberOf_6 : decode cX0_numberOf 6 = .ok (.getfield 9, 3) := by decide +kernel
theorem dX0_numberOf_9 : decode cX0_numberOf 9 = .ok (.arraylength, 1) := by decide +kernel
theorem dX0_numberOf_10 : decode cX0_numberOf 10 = .ok (.if_icmp .ge 12, 3) := by decide +kernel
theorem dX0_numberOf_13 : decode cX0_numberOf 13 = .ok (.aload_n 0, 1) := by decide +kernel
theorem dX0_numberOf_14 : decode cX0_numberOf 14 = .ok (.getfield 9, 3) := by decide +kernel
theorem dX0_numberOf_17 : decode cX0_numberOf 17 = .ok (.iload_n 1, 1) := by decide +kernel
theorem dX0_numberOf_18 : decode cX0_numberOf 18 = .ok (.laload, 1) := by decide +kernel
theorem dX0_numberOf_19 : decode cX0_numberOf 19 = .ok (.goto 4, 3) := by decide +kernel
theorem dX0_numberOf_22 : decode cX0_numberOf 22 = .ok (.lconst 0, 1) := by decide +kernel
theorem dX0_numberOf_23 : decode cX0_numberOf 23 = .ok (.lreturn, 1) := by decide +kernel
theorem dX0_settle_0 : decode cX0_settle 0 = .ok (.iload_n 1, 1) := by decide +kernel
theorem dX0_settle_1 : decode cX0_settle 1 = .ok (.ifCond .lt 29, 3) := by decide +kernel
theorem dX0_settle_4 : decode cX0_settle 4 = .ok (.iload_n 1, 1) := by decide +kernel
theorem dX0_settle_5 : decode cX0_settle 5 = .ok (.aload_n 0, 1) := by decide +kernel
theorem dX0_settle_6 : decode cX0_settle 6 = .ok (.getfield 9, 3) := by decide +kernel
theorem dX0_settle_9 : decode cX0_settle 9 = .ok (.arraylength, 1) := by decide +kernel
theorem dX0_settle_10 : decode cX0_settle 10 = .ok (.if_icmp .ge 20, 3) := by decide +kernel
theorem dX0_settle_13 : decode cX0_settle 13 = .ok (.aload_n 0, 1) := by decide +kernel
theorem dX0_settle_14 : decode cX0_settle 14 = .ok (.getfield 9, 3) := by decide +kernel
theorem dX0_settle_17 : decode cX0_settle 17 = .ok (.iload_n 1, 1) := by decide +kernel
theorem dX0_settle_18 : decode cX0_settle 18 = .ok (.lload_n 2, 1) := by decide +kernel
theorem dX0_settle_19 : decode cX0_settle 19 = .ok (.lastore, 1) := by decide +kernel
theorem dX0_settle_20 : decode cX0_settle 20 = .ok (.aload_n 0, 1) := by decide +kernel
theorem dX0_settle_21 : decode cX0_settle 21 = .ok (.dup, 1) := by decide +kernel
theorem dX0_settle_22 : decode cX0_settle 22 = .ok (.getfield 17, 3) := by decide +kernel
theorem dX0_settle_25 : decode cX0_settle 25 = .ok (.iconst 1, 1) := by decide +kernel
theorem dX0_settle_26 : decode cX0_settle 26 = .ok (.iadd, 1) := by decide +kernel
theorem dX0_settle_27 : decode cX0_settle 27 = .ok (.putfield 17, 3) := by decide +kernel
theorem dX0_settle_30 : decode cX0_settle 30 = .ok (.lload_n 2, 1) := by decide +kernel
theorem dX0_settle_31 : decode cX0_settle 31 = .ok (.iconst 4, 1) := by decide +kernel
theorem dX0_settle_32 : decode cX0_settle 32 = .ok (.invokestatic 45, 3) := by decide +kernel
theorem dX0_settle_35 : decode cX0_settle 35 = .ok (.ireturn, 1) := by decide +kernel
theorem dX0_clockAtPlace_0 : decode cX0_clockAtPlace 0 = .ok (.iconst 0, 1) := by decide +kernel
theorem dX0_clockAtPlace_1 : decode cX0_clockAtPlace 1 = .ok (.istore_n 2, 1) := by decide +kernel
theorem dX0_clockAtPlace_2 : decode cX0_clockAtPlace 2 = .ok (.iload_n 2, 1) := by decide +kernel
theorem dX0_clockAtPlace_3 : decode cX0_clockAtPlace 3 = .ok (.bipush 8, 2) := by decide +kernel
theorem dX0_clockAtPlace_5 : decode cX0_clockAtPlace 5 = .ok (.if_icmp .ge 20, 3) := by decide +kernel
theorem dX0_clockAtPlace_8 : decode cX0_clockAtPlace 8 = .ok (.aload_n 0, 1) := by decide +kernel
theorem dX0_clockAtPlace_9 : decode cX0_clockAtPlace 9 = .ok (.iload_n 2, 1) := by decide +kernel
theorem dX0_clockAtPlace_10 : decode cX0_clockAtPlace 10 = .ok (.invokevirtual 185, 3) := by decide +kernel
theorem dX0_clockAtPlace_13 : decode cX0_clockAtPlace 13 = .ok (.iload_n 1, 1) := by decide +kernel
theorem dX0_clockAtPlace_14 : decode cX0_clockAtPlace 14 = .ok (.if_icmp .ne 5, 3) := by decide +kernel
theorem dX0_clockAtPlace_17 : decode cX0_clockAtPlace 17 = .ok (.iload_n 2, 1) := by decide +kernel
theorem dX0_clockAtPlace_18 : decode cX0_clockAtPlace 18 = .ok (.ireturn, 1) := by decide +kernel
theorem dX0_clockAtPlace_19 : decode cX0_clockAtPlace 19 = .ok (.iinc 2 1, 3) := by decide +kernel
theorem dX0_clockAtPlace_22 : decode cX0_clockAtPlace 22 = .ok (.goto (-20), 3) := by decide +kernel
theorem dX0_clockAtPlace_25 : decode cX0_clockAtPlace 25 = .ok (.iconst 0, 1) := by decide +kernel
theorem dX0_clockAtPlace_26 : decode cX0_clockAtPlace 26 = .ok (.ireturn, 1) := by decide +kernel
theorem dX0_placeOf_0 : decode cX0_placeOf 0 = .ok (.aload_n 0, 1) := by decide +kernel
theorem dX0_placeOf_1 : decode cX0_placeOf 1 = .ok (.iload_n 1, 1) := by decide +kernel
theorem dX0_placeOf_2 : decode cX0_placeOf 2 = .ok (.invokevirtual 41, 3) := by decide +kernel
theorem dX0_placeOf_5 : decode cX0_placeOf 5 = .ok (.lstore_n 2, 1) := by decide +kernel
theorem dX0_placeOf_6 : decode cX0_placeOf 6 = .ok (.iconst 0, 1) := by decide +kernel
theorem dX0_placeOf_7 : decode cX0_placeOf 7 = .ok (.istore 4, 2) := by decide +kernel
theorem dX0_placeOf_9 : decode cX0_placeOf 9 = .ok (.iconst 0, 1) := by decide +kernel
theorem dX0_placeOf_10 : decode cX0_placeOf 10 = .ok (.istore 5, 2) := by decide +kernel
theorem dX0_placeOf_12 : decode cX0_placeOf 12 = .ok (.iload 5, 2) := by decide +kernel
theorem dX0_placeOf_14 : decode cX0_placeOf 14 = .ok (.bipush 8, 2) := by decide +kernel
theorem dX0_placeOf_16 : decode cX0_placeOf 16 = .ok (.if_icmp .ge 40, 3) := by decide +kernel
theorem dX0_placeOf_19 : decode cX0_placeOf 19 = .ok (.aload_n 0, 1) := by decide +kernel
theorem dX0_placeOf_20 : decode cX0_placeOf 20 = .ok (.iload 5, 2) := by decide +kernel
theorem dX0_placeOf_22 : decode cX0_placeOf 22 = .ok (.invokevirtual 41, 3) := by decide +kernel
theorem dX0_placeOf_25 : decode cX0_placeOf 25 = .ok (.lstore 6, 2) := by decide +kernel
theorem dX0_placeOf_27 : decode cX0_placeOf 27 = .ok (.lload 6, 2) := by decide +kernel
theorem dX0_placeOf_29 : decode cX0_placeOf 29 = .ok (.lload_n 2, 1) := by decide +kernel
theorem dX0_placeOf_30 : decode cX0_placeOf 30 = .ok (.lcmp, 1) := by decide +kernel
theorem dX0_placeOf_31 : decode cX0_placeOf 31 = .ok (.ifCond .lt 16, 3) := by decide +kernel
theorem dX0_placeOf_34 : decode cX0_placeOf 34 = .ok (.lload 6, 2) := by decide +kernel
theorem dX0_placeOf_36 : decode cX0_placeOf 36 = .ok (.lload_n 2, 1) := by decide +kernel
theorem dX0_placeOf_37 : decode cX0_placeOf 37 = .ok (.lcmp, 1) := by decide +kernel
theorem dX0_placeOf_38 : decode cX0_placeOf 38 = .ok (.ifCond .ne 12, 3) := by decide +kernel
theorem dX0_placeOf_41 : decode cX0_placeOf 41 = .ok (.iload 5, 2) := by decide +kernel
theorem dX0_placeOf_43 : decode cX0_placeOf 43 = .ok (.iload_n 1, 1) := by decide +kernel
theorem dX0_placeOf_44 : decode cX0_placeOf 44 = .ok (.if_icmp .ge 6, 3) := by decide +kernel
theorem dX0_placeOf_47 : decode cX0_placeOf 47 = .ok (.iinc 4 1, 3) := by decide +kernel
theorem dX0_placeOf_50 : decode cX0_placeOf 50 = .ok (.iinc 5 1, 3) := by decide +kernel
theorem dX0_placeOf_53 : decode cX0_placeOf 53 = .ok (.goto (-41), 3) := by decide +kernel
theorem dX0_placeOf_56 : decode cX0_placeOf 56 = .ok (.iload 4, 2) := by decide +kernel
theorem dX0_placeOf_58 : decode cX0_placeOf 58 = .ok (.ireturn, 1) := by decide +kernel
theorem dX0_isUnlikeEarlier_0 : decode cX0_isUnlikeEarlier 0 = .ok (.iconst 0, 1) := by decide +kernel
theorem dX0_isUnlikeEarlier_1 : decode cX0_isUnlikeEarlier 1 = .ok (.istore_n 2, 1) := by decide +kernel
theorem dX0_isUnlikeEarlier_2 : decode cX0_isUnlikeEarlier 2 = .ok (.iload_n 2, 1) := by decide +kernel
theorem dX0_isUnlikeEarlier_3 : decode cX0_isUnlikeEarlier 3 = .ok (.iload_n 1, 1) := by decide +kernel
theorem dX0_isUnlikeEarlier_4 : decode cX0_isUnlikeEarlier 4 = .ok (.if_icmp .ge 25, 3) := by decide +kernel
theorem dX0_isUnlikeEarlier_7 : decode cX0_isUnlikeEarlier 7 = .ok (.aload_n 0, 1) := by decide +kernel
theorem dX0_isUnlikeEarlier_8 : decode cX0_isUnlikeEarlier 8 = .ok (.iload_n 2, 1) := by decide +kernel
theorem dX0_isUnlikeEarlier_9 : decode cX0_isUnlikeEarlier 9 = .ok (.invokevirtual 41, 3) := by decide +kernel
theorem dX0_isUnlikeEarlier_12 : decode cX0_isUnlikeEarlier 12 = .ok (.aload_n 0, 1) := by decide +kernel
theorem dX0_isUnlikeEarlier_13 : decode cX0_isUnlikeEarlier 13 = .ok (.iload_n 1, 1) := by decide +kernel
theorem dX0_isUnlikeEarlier_14 : decode cX0_isUnlikeEarlier 14 = .ok (.invokevirtual 41, 3) := by decide +kernel
theorem dX0_isUnlikeEarlier_17 : decode cX0_isUnlikeEarlier 17 = .ok (.lcmp, 1) := by decide +kernel
theorem dX0_isUnlikeEarlier_18 : decode cX0_isUnlikeEarlier 18 = .ok (.ifCond .ne 5, 3) := by decide +kernel
theorem dX0_isUnlikeEarlier_21 : decode cX0_isUnlikeEarlier 21 = .ok (.iconst 0, 1) := by decide +kernel
theorem dX0_isUnlikeEarlier_22 : decode cX0_isUnlikeEarlier 22 = .ok (.ireturn, 1) := by decide +kernel
theorem dX0_isUnlikeEarlier_23 : decode cX0_isUnlikeEarlier 23 = .ok (.iinc 2 1, 3) := by decide +kernel
theorem dX0_isUnlikeEarlier_26 : decode cX0_isUnlikeEarlier 26 = .ok (.goto (-24), 3) := by decide +kernel
theorem dX0_isUnlikeEarlier_29 : decode cX0_isUnlikeEarlier 29 = .ok (.iconst 1, 1) := by decide +kernel
theorem dX0_isUnlikeEarlier_30 : decode cX0_isUnlikeEarlier 30 = .ok (.ireturn, 1) := by decide +kernel
theorem dX0_numberOfParts_0 : decode cX0_numberOfParts 0 = .ok (.ldc2_w 188, 3) := by decide +kernel
theorem dX0_numberOfParts_3 : decode cX0_numberOfParts 3 = .ok (.iload_n 0, 1) := by decide +kernel
theorem dX0_numberOfParts_4 : decode cX0_numberOfParts 4 = .ok (.i2l, 1) := by decide +kernel
theorem dX0_numberOfParts_5 : decode cX0_numberOfParts 5 = .ok (.lmul, 1) := by decide +kernel
theorem dX0_numberOfParts_6 : decode cX0_numberOfParts 6 = .ok (.ldc2_w 190, 3) := by decide +kernel
theorem dX0_numberOfParts_9 : decode cX0_numberOfParts 9 = .ok (.iload_n 1, 1) := by decide +kernel
theorem dX0_numberOfParts_10 : decode cX0_numberOfParts 10 = .ok (.i2l, 1) := by decide +kernel
theorem dX0_numberOfParts_11 : decode cX0_numberOfParts 11 = .ok (.lmul, 1) := by decide +kernel
theorem dX0_numberOfParts_12 : decode cX0_numberOfParts 12 = .ok (.ladd, 1) := by decide +kernel
theorem dX0_numberOfParts_13 : decode cX0_numberOfParts 13 = .ok (.iload_n 2, 1) := by decide +kernel
theorem dX0_numberOfParts_14 : decode cX0_numberOfParts 14 = .ok (.i2l, 1) := by decide +kernel
theorem dX0_numberOfParts_15 : decode cX0_numberOfParts 15 = .ok (.ladd, 1) := by decide +kernel
theorem dX0_numberOfParts_16 : decode cX0_numberOfParts 16 = .ok (.ldc2_w 39, 3) := by decide +kernel
theorem dX0_numberOfParts_19 : decode cX0_numberOfParts 19 = .ok (.lmul, 1) := by decide +kernel
theorem dX0_numberOfParts_20 : decode cX0_numberOfParts 20 = .ok (.iload_n 3, 1) := by decide +kernel
theorem dX0_numberOfParts_21 : decode cX0_numberOfParts 21 = .ok (.i2l, 1) := by decide +kernel
theorem dX0_numberOfParts_22 : decode cX0_numberOfParts 22 = .ok (.ladd, 1) := by decide +kernel
theorem dX0_numberOfParts_23 : decode cX0_numberOfParts 23 = .ok (.lreturn, 1) := by decide +kernel
theorem dX0_partOf_0 : decode cX0_partOf 0 = .ok (.lload_n 0, 1) := by decide +kernel
theorem dX0_partOf_1 : decode cX0_partOf 1 = .ok (.ldc2_w 39, 3) := by decide +kernel
theorem dX0_partOf_4 : decode cX0_partOf 4 = .ok (.ldiv, 1) := by decide +kernel
theorem dX0_partOf_5 : decode cX0_partOf 5 = .ok (.l2i, 1) := by decide +kernel
theorem dX0_partOf_6 : decode cX0_partOf 6 = .ok (.istore_n 3, 1) := by decide +kernel
theorem dX0_partOf_7 : decode cX0_partOf 7 = .ok (.iload_n 2, 1) := by decide +kernel
theorem dX0_partOf_8 : decode cX0_partOf 8 = .ok (.tableswitch 58 0 3 #[32, 38, 46, 51], 32) := by decide +kernel
theorem dX0_partOf_40 : decode cX0_partOf 40 = .ok (.iload_n 3, 1) := by decide +kernel
theorem dX0_partOf_41 : decode cX0_partOf 41 = .ok (.sipush 3600, 3) := by decide +kernel
theorem dX0_partOf_44 : decode cX0_partOf 44 = .ok (.idiv, 1) := by decide +kernel
theorem dX0_partOf_45 : decode cX0_partOf 45 = .ok (.ireturn, 1) := by decide +kernel
theorem dX0_partOf_46 : decode cX0_partOf 46 = .ok (.iload_n 3, 1) := by decide +kernel
theorem dX0_partOf_47 : decode cX0_partOf 47 = .ok (.bipush 60, 2) := by decide +kernel
theorem dX0_partOf_49 : decode cX0_partOf 49 = .ok (.idiv, 1) := by decide +kernel
theorem dX0_partOf_50 : decode cX0_partOf 50 = .ok (.bipush 60, 2) := by decide +kernel
theorem dX0_partOf_52 : decode cX0_partOf 52 = .ok (.irem, 1) := by decide +kernel
theorem dX0_partOf_53 : decode cX0_partOf 53 = .ok (.ireturn, 1) := by decide +kernel
theorem dX0_partOf_54 : decode cX0_partOf 54 = .ok (.iload_n 3, 1) := by decide +kernel
theorem dX0_partOf_55 : decode cX0_partOf 55 = .ok (.bipush 60, 2) := by decide +kernel
theorem dX0_partOf_57 : decode cX0_partOf 57 = .ok (.irem, 1) := by decide +kernel
theorem dX0_partOf_58 : decode cX0_partOf 58 = .ok (.ireturn, 1) := by decide +kernel
theorem dX0_partOf_59 : decode cX0_partOf 59 = .ok (.lload_n 0, 1) := by decide +kernel
theorem dX0_partOf_60 : decode cX0_partOf 60 = .ok (.ldc2_w 39, 3) := by decide +kernel
theorem dX0_partOf_63 : decode cX0_partOf 63 = .ok (.lrem, 1) := by decide +kernel
theorem dX0_partOf_64 : decode cX0_partOf 64 = .ok (.l2i, 1) := by decide +kernel
theorem dX0_partOf_65 : decode cX0_partOf 65 = .ok (.ireturn, 1) := by decide +kernel
theorem dX0_partOf_66 : decode cX0_partOf 66 = .ok (.iload_n 3, 1) := by decide +kernel
theorem dX0_partOf_67 : decode cX0_partOf 67 = .ok (.ireturn, 1) := by decide +kernel
theorem dX0_partNanos_0 : decode cX0_partNanos 0 = .ok (.iload_n 0, 1) := by decide +kernel
theorem dX0_partNanos_1 : decode cX0_partNanos 1 = .ok (.ifCond .lt 19, 3) := by decide +kernel
theorem dX0_partNanos_4 : decode cX0_partNanos 4 = .ok (.iload_n 0, 1) := by decide +kernel
theorem dX0_partNanos_5 : decode cX0_partNanos 5 = .ok (.getstatic 192, 3) := by decide +kernel
theorem dX0_partNanos_8 : decode cX0_partNanos 8 = .ok (.arraylength, 1) := by decide +kernel
theorem dX0_partNanos_9 : decode cX0_partNanos 9 = .ok (.if_icmp .ge 11, 3) := by decide +kernel
theorem dX0_partNanos_12 : decode cX0_partNanos 12 = .ok (.getstatic 192, 3) := by decide +kernel
theorem dX0_partNanos_15 : decode cX0_partNanos 15 = .ok (.iload_n 0, 1) := by decide +kernel
theorem dX0_partNanos_16 : decode cX0_partNanos 16 = .ok (.laload, 1) := by decide +kernel
theorem dX0_partNanos_17 : decode cX0_partNanos 17 = .ok (.goto 4, 3) := by decide +kernel
theorem dX0_partNanos_20 : decode cX0_partNanos 20 = .ok (.lconst 0, 1) := by decide +kernel
theorem dX0_partNanos_21 : decode cX0_partNanos 21 = .ok (.lreturn, 1) := by decide +kernel
theorem dX0_unitNanos_0 : decode cX0_unitNanos 0 = .ok (.iload_n 0, 1) := by decide +kernel
theorem dX0_unitNanos_1 : decode cX0_unitNanos 1 = .ok (.ifCond .lt 19, 3) := by decide +kernel
theorem dX0_unitNanos_4 : decode cX0_unitNanos 4 = .ok (.iload_n 0, 1) := by decide +kernel
theorem dX0_unitNanos_5 : decode cX0_unitNanos 5 = .ok (.getstatic 195, 3) := by decide +kernel
theorem dX0_unitNanos_8 : decode cX0_unitNanos 8 = .ok (.arraylength, 1) := by decide +kernel
theorem dX0_unitNanos_9 : decode cX0_unitNanos 9 = .ok (.if_icmp .ge 11, 3) := by decide +kernel
theorem dX0_unitNanos_12 : decode cX0_unitNanos 12 = .ok (.getstatic 195, 3) := by decide +kernel
theorem dX0_unitNanos_15 : decode cX0_unitNanos 15 = .ok (.iload_n 0, 1) := by decide +kernel
theorem dX0_unitNanos_16 : decode cX0_unitNanos 16 = .ok (.laload, 1) := by decide +kernel
theorem dX0_unitNanos_17 : decode cX0_unitNanos 17 = .ok (.goto 4, 3) := by decide +kernel
theorem dX0_unitNanos_20 : decode cX0_unitNanos 20 = .ok (.lconst 1, 1) := by decide +kernel
theorem dX0_unitNanos_21 : decode cX0_unitNanos 21 = .ok (.lreturn, 1) := by decide +kernel
theorem dX0_putOn_0 : decode cX0_putOn 0 = .ok (.iload_n 2, 1) := by decide +kernel
theorem dX0_putOn_1 : decode cX0_putOn 1 = .ok (.invokestatic 198, 3) := by decide +kernel
theorem dX0_putOn_4 : decode cX0_putOn 4 = .ok (.lstore 5, 2) := by decide +kernel
theorem dX0_putOn_6 : decode cX0_putOn 6 = .ok (.lload 5, 2) := by decide +kernel
theorem dX0_putOn_8 : decode cX0_putOn 8 = .ok (.lconst 0, 1) := by decide +kernel
theorem dX0_putOn_9 : decode cX0_putOn 9 = .ok (.lcmp, 1) := by decide +kernel
theorem dX0_putOn_10 : decode cX0_putOn 10 = .ok (.ifCond .gt 5, 3) := by decide +kernel
theorem dX0_putOn_13 : decode cX0_putOn 13 = .ok (.lload_n 0, 1) := by decide +kernel
theorem dX0_putOn_14 : decode cX0_putOn 14 = .ok (.lreturn, 1) := by decide +kernel
theorem dX0_putOn_15 : decode cX0_putOn 15 = .ok (.ldc2_w 201, 3) := by decide +kernel
theorem dX0_putOn_18 : decode cX0_putOn 18 = .ok (.lload 5, 2) := by decide +kernel
theorem dX0_putOn_20 : decode cX0_putOn 20 = .ok (.ldiv, 1) := by decide +kernel
theorem dX0_putOn_21 : decode cX0_putOn 21 = .ok (.lstore 7, 2) := by decide +kernel
theorem dX0_putOn_23 : decode cX0_putOn 23 = .ok (.lload 7, 2) := by decide +kernel
theorem dX0_putOn_25 : decode cX0_putOn 25 = .ok (.lconst 0, 1) := by decide +kernel
theorem dX0_putOn_26 : decode cX0_putOn 26 = .ok (.lcmp, 1) := by decide +kernel
theorem dX0_putOn_27 : decode cX0_putOn 27 = .ok (.ifCond .gt 5, 3) := by decide +kernel
theorem dX0_putOn_30 : decode cX0_putOn 30 = .ok (.lload_n 0, 1) := by decide +kernel
theorem dX0_putOn_31 : decode cX0_putOn 31 = .ok (.lreturn, 1) := by decide +kernel
theorem dX0_putOn_32 : decode cX0_putOn 32 = .ok (.lload_n 3, 1) := by decide +kernel
theorem dX0_putOn_33 : decode cX0_putOn 33 = .ok (.lload 7, 2) := by decide +kernel
theorem dX0_putOn_35 : decode cX0_putOn 35 = .ok (.invokestatic 203, 3) := by decide +kernel
theorem dX0_putOn_38 : decode cX0_putOn 38 = .ok (.lload 5, 2) := by decide +kernel
theorem dX0_putOn_40 : decode cX0_putOn 40 = .ok (.lmul, 1) := by decide +kernel
theorem dX0_putOn_41 : decode cX0_putOn 41 = .ok (.lstore 9, 2) := by decide +kernel
theorem dX0_putOn_43 : decode cX0_putOn 43 = .ok (.lload_n 0, 1) := by decide +kernel
theorem dX0_putOn_44 : decode cX0_putOn 44 = .ok (.lload 9, 2) := by decide +kernel
theorem dX0_putOn_46 : decode cX0_putOn 46 = .ok (.ladd, 1) := by decide +kernel
theorem dX0_putOn_47 : decode cX0_putOn 47 = .ok (.ldc2_w 201, 3) := by decide +kernel
theorem dX0_putOn_50 : decode cX0_putOn 50 = .ok (.lrem, 1) := by decide +kernel
theorem dX0_putOn_51 : decode cX0_putOn 51 = .ok (.lreturn, 1) := by decide +kernel
theorem dX0_cutNumber_0 : decode cX0_cutNumber 0 = .ok (.iload_n 2, 1) := by decide +kernel
theorem dX0_cutNumber_1 : decode cX0_cutNumber 1 = .ok (.invokestatic 198, 3) := by decide +kernel
theorem dX0_cutNumber_4 : decode cX0_cutNumber 4 = .ok (.lstore_n 3, 1) := by decide +kernel
theorem dX0_cutNumber_5 : decode cX0_cutNumber 5 = .ok (.lload_n 3, 1) := by decide +kernel
theorem dX0_cutNumber_6 : decode cX0_cutNumber 6 = .ok (.lconst 0, 1) := by decide +kernel
theorem dX0_cutNumber_7 : decode cX0_cutNumber 7 = .ok (.lcmp, 1) := by decide +kernel
theorem dX0_cutNumber_8 : decode cX0_cutNumber 8 = .ok (.ifCond .le 11, 3) := by decide +kernel
theorem dX0_cutNumber_11 : decode cX0_cutNumber 11 = .ok (.lload_n 0, 1) := by decide +kernel
theorem dX0_cutNumber_12 : decode cX0_cutNumber 12 = .ok (.lload_n 0, 1) := by decide +kernel
theorem dX0_cutNumber_13 : decode cX0_cutNumber 13 = .ok (.lload_n 3, 1) := by decide +kernel
theorem dX0_cutNumber_14 : decode cX0_cutNumber 14 = .ok (.lrem, 1) := by decide +kernel
theorem dX0_cutNumber_15 : decode cX0_cutNumber 15 = .ok (.lsub, 1) := by decide +kernel
theorem dX0_cutNumber_16 : decode cX0_cutNumber 16 = .ok (.goto 4, 3) := by decide +kernel
theorem dX0_cutNumber_19 : decode cX0_cutNumber 19 = .ok (.lload_n 0, 1) := by decide +kernel
theorem dX0_cutNumber_20 : decode cX0_cutNumber 20 = .ok (.lreturn, 1) := by decide +kernel
theorem dX0_sideOf_0 : decode cX0_sideOf 0 = .ok (.lload_n 0, 1) := by decide +kernel
theorem dX0_sideOf_1 : decode cX0_sideOf 1 = .ok (.lload_n 2, 1) := by decide +kernel
theorem dX0_sideOf_2 : decode cX0_sideOf 2 = .ok (.lcmp, 1) := by decide +kernel
theorem dX0_sideOf_3 : decode cX0_sideOf 3 = .ok (.ifCond .ge 5, 3) := by decide +kernel
theorem dX0_sideOf_6 : decode cX0_sideOf 6 = .ok (.iconst (-1), 1) := by decide +kernel
theorem dX0_sideOf_7 : decode cX0_sideOf 7 = .ok (.ireturn, 1) := by decide +kernel
theorem dX0_sideOf_8 : decode cX0_sideOf 8 = .ok (.lload_n 0, 1) := by decide +kernel
theorem dX0_sideOf_9 : decode cX0_sideOf 9 = .ok (.lload_n 2, 1) := by decide +kernel
theorem dX0_sideOf_10 : decode cX0_sideOf 10 = .ok (.lcmp, 1) := by decide +kernel
theorem dX0_sideOf_11 : decode cX0_sideOf 11 = .ok (.ifCond .le 7, 3) := by decide +kernel
theorem dX0_sideOf_14 : decode cX0_sideOf 14 = .ok (.iconst 1, 1) := by decide +kernel
theorem dX0_sideOf_15 : decode cX0_sideOf 15 = .ok (.goto 4, 3) := by decide +kernel
theorem dX0_sideOf_18 : decode cX0_sideOf 18 = .ok (.iconst 0, 1) := by decide +kernel
theorem dX0_sideOf_19 : decode cX0_sideOf 19 = .ok (.ireturn, 1) := by decide +kernel
theorem dX0_unitsBetween_0 : decode cX0_unitsBetween 0 = .ok (.iload 4, 2) := by decide +kernel
theorem dX0_unitsBetween_2 : decode cX0_unitsBetween 2 = .ok (.invokestatic 198, 3) := by decide +kernel
theorem dX0_unitsBetween_5 : decode cX0_unitsBetween 5 = .ok (.lstore 5, 2) := by decide +kernel
theorem dX0_unitsBetween_7 : decode cX0_unitsBetween 7 = .ok (.lload 5, 2) := by decide +kernel
theorem dX0_unitsBetween_9 : decode cX0_unitsBetween 9 = .ok (.lconst 0, 1) := by decide +kernel
theorem dX0_unitsBetween_10 : decode cX0_unitsBetween 10 = .ok (.lcmp, 1) := by decide +kernel
theorem dX0_unitsBetween_11 : decode cX0_unitsBetween 11 = .ok (.ifCond .le 12, 3) := by decide +kernel
theorem dX0_unitsBetween_14 : decode cX0_unitsBetween 14 = .ok (.lload_n 2, 1) := by decide +kernel
theorem dX0_unitsBetween_15 : decode cX0_unitsBetween 15 = .ok (.lload_n 0, 1) := by decide +kernel
theorem dX0_unitsBetween_16 : decode cX0_unitsBetween 16 = .ok (.lsub, 1) := by decide +kernel
theorem dX0_unitsBetween_17 : decode cX0_unitsBetween 17 = .ok (.lload 5, 2) := by decide +kernel
theorem dX0_unitsBetween_19 : decode cX0_unitsBetween 19 = .ok (.ldiv, 1) := by decide +kernel
theorem dX0_unitsBetween_20 : decode cX0_unitsBetween 20 = .ok (.goto 4, 3) := by decide +kernel
theorem dX0_unitsBetween_23 : decode cX0_unitsBetween 23 = .ok (.lconst 0, 1) := by decide +kernel
theorem dX0_unitsBetween_24 : decode cX0_unitsBetween 24 = .ok (.lreturn, 1) := by decide +kernel
theorem dX0_digits_0 : decode cX0_digits 0 = .ok (.new 84, 3) := by decide +kernel
theorem dX0_digits_3 : decode cX0_digits 3 = .ok (.dup, 1) := by decide +kernel
theorem dX0_digits_4 : decode cX0_digits 4 = .ok (.invokespecial 86, 3) := by decide +kernel
theorem dX0_digits_7 : decode cX0_digits 7 = .ok (.astore_n 2, 1) := by decide +kernel
theorem dX0_digits_8 : decode cX0_digits 8 = .ok (.lload_n 0, 1) := by decide +kernel
theorem dX0_digits_9 : decode cX0_digits 9 = .ok (.invokestatic 208, 3) := by decide +kernel
theorem dX0_digits_12 : decode cX0_digits 12 = .ok (.lstore_n 3, 1) := by decide +kernel
theorem dX0_digits_13 : decode cX0_digits 13 = .ok (.aload_n 2, 1) := by decide +kernel
theorem dX0_digits_14 : decode cX0_digits 14 = .ok (.ldc2_w 212, 3) := by decide +kernel
theorem dX0_digits_17 : decode cX0_digits 17 = .ok (.lload_n 3, 1) := by decide +kernel
theorem dX0_digits_18 : decode cX0_digits 18 = .ok (.ldc2_w 214, 3) := by decide +kernel
theorem dX0_digits_21 : decode cX0_digits 21 = .ok (.lrem, 1) := by decide +kernel
theorem dX0_digits_22 : decode cX0_digits 22 = .ok (.ladd, 1) := by decide +kernel
theorem dX0_digits_23 : decode cX0_digits 23 = .ok (.l2i, 1) := by decide +kernel
theorem dX0_digits_24 : decode cX0_digits 24 = .ok (.i2c, 1) := by decide +kernel
theorem dX0_digits_25 : decode cX0_digits 25 = .ok (.invokevirtual 91, 3) := by decide +kernel
theorem dX0_digits_28 : decode cX0_digits 28 = .ok (.pop, 1) := by decide +kernel
theorem dX0_digits_29 : decode cX0_digits 29 = .ok (.lload_n 3, 1) := by decide +kernel
theorem dX0_digits_30 : decode cX0_digits 30 = .ok (.ldc2_w 214, 3) := by decide +kernel
theorem dX0_digits_33 : decode cX0_digits 33 = .ok (.ldiv, 1) := by decide +kernel
theorem dX0_digits_34 : decode cX0_digits 34 = .ok (.lstore_n 3, 1) := by decide +kernel
theorem dX0_digits_35 : decode cX0_digits 35 = .ok (.iconst 1, 1) := by decide +kernel
theorem dX0_digits_36 : decode cX0_digits 36 = .ok (.istore 5, 2) := by decide +kernel
theorem dX0_digits_38 : decode cX0_digits 38 = .ok (.iload 5, 2) := by decide +kernel
theorem dX0_digits_40 : decode cX0_digits 40 = .ok (.bipush 19, 2) := by decide +kernel
theorem dX0_digits_42 : decode cX0_digits 42 = .ok (.if_icmp .ge 37, 3) := by decide +kernel
theorem dX0_digits_45 : decode cX0_digits 45 = .ok (.lload_n 3, 1) := by decide +kernel
theorem dX0_digits_46 : decode cX0_digits 46 = .ok (.lconst 0, 1) := by decide +kernel
theorem dX0_digits_47 : decode cX0_digits 47 = .ok (.lcmp, 1) := by decide +kernel
theorem dX0_digits_48 : decode cX0_digits 48 = .ok (.ifCond .le 31, 3) := by decide +kernel
theorem dX0_digits_51 : decode cX0_digits 51 = .ok (.aload_n 2, 1) := by decide +kernel
theorem dX0_digits_52 : decode cX0_digits 52 = .ok (.ldc2_w 212, 3) := by decide +kernel
theorem dX0_digits_55 : decode cX0_digits 55 = .ok (.lload_n 3, 1) := by decide +kernel
theorem dX0_digits_56 : decode cX0_digits 56 = .ok (.ldc2_w 214, 3) := by decide +kernel
theorem dX0_digits_59 : decode cX0_digits 59 = .ok (.lrem, 1) := by decide +kernel
theorem dX0_digits_60 : decode cX0_digits 60 = .ok (.ladd, 1) := by decide +kernel
theorem dX0_digits_61 : decode cX0_digits 61 = .ok (.l2i, 1) := by decide +kernel
theorem dX0_digits_62 : decode cX0_digits 62 = .ok (.i2c, 1) := by decide +kernel
theorem dX0_digits_63 : decode cX0_digits 63 = .ok (.invokevirtual 91, 3) := by decide +kernel
theorem dX0_digits_66 : decode cX0_digits 66 = .ok (.pop, 1) := by decide +kernel
theorem dX0_digits_67 : decode cX0_digits 67 = .ok (.lload_n 3, 1) := by decide +kernel
theorem dX0_digits_68 : decode cX0_digits 68 = .ok (.ldc2_w 214, 3) := by decide +kernel
theorem dX0_digits_71 : decode cX0_digits 71 = .ok (.ldiv, 1) := by decide +kernel
theorem dX0_digits_72 : decode cX0_digits 72 = .ok (.lstore_n 3, 1) := by decide +kernel
theorem dX0_digits_73 : decode cX0_digits 73 = .ok (.iinc 5 1, 3) := by decide +kernel
theorem dX0_digits_76 : decode cX0_digits 76 = .ok (.goto (-38), 3) := by decide +kernel
theorem dX0_digits_79 : decode cX0_digits 79 = .ok (.lload_n 0, 1) := by decide +kernel
theorem dX0_digits_80 : decode cX0_digits 80 = .ok (.lconst 0, 1) := by decide +kernel
theorem dX0_digits_81 : decode cX0_digits 81 = .ok (.lcmp, 1) := by decide +kernel
theorem dX0_digits_82 : decode cX0_digits 82 = .ok (.ifCond .ge 10, 3) := by decide +kernel
theorem dX0_digits_85 : decode cX0_digits 85 = .ok (.aload_n 2, 1) := by decide +kernel
theorem dX0_digits_86 : decode cX0_digits 86 = .ok (.bipush 45, 2) := by decide +kernel
theorem dX0_digits_88 : decode cX0_digits 88 = .ok (.invokevirtual 91, 3) := by decide +kernel
theorem dX0_digits_91 : decode cX0_digits 91 = .ok (.pop, 1) := by decide +kernel
theorem dX0_digits_92 : decode cX0_digits 92 = .ok (.aload_n 2, 1) := by decide +kernel
theorem dX0_digits_93 : decode cX0_digits 93 = .ok (.invokevirtual 216, 3) := by decide +kernel
theorem dX0_digits_96 : decode cX0_digits 96 = .ok (.invokevirtual 94, 3) := by decide +kernel
theorem dX0_digits_99 : decode cX0_digits 99 = .ok (.areturn, 1) := by decide +kernel
theorem dX0_partsBelong_0 : decode cX0_partsBelong 0 = .ok (.iconst 0, 1) := by decide +kernel
theorem dX0_partsBelong_1 : decode cX0_partsBelong 1 = .ok (.istore_n 2, 1) := by decide +kernel
theorem dX0_partsBelong_2 : decode cX0_partsBelong 2 = .ok (.iload_n 2, 1) := by decide +kernel
theorem dX0_partsBelong_3 : decode cX0_partsBelong 3 = .ok (.getstatic 167, 3) := by decide +kernel
theorem dX0_partsBelong_6 : decode cX0_partsBelong 6 = .ok (.arraylength, 1) := by decide +kernel
theorem dX0_partsBelong_7 : decode cX0_partsBelong 7 = .ok (.if_icmp .ge 30, 3) := by decide +kernel
theorem dX0_partsBelong_10 : decode cX0_partsBelong 10 = .ok (.lload_n 0, 1) := by decide +kernel
theorem dX0_partsBelong_11 : decode cX0_partsBelong 11 = .ok (.iload_n 2, 1) := by decide +kernel
theorem dX0_partsBelong_12 : decode cX0_partsBelong 12 = .ok (.invokestatic 45, 3) := by decide +kernel
theorem dX0_partsBelong_15 : decode cX0_partsBelong 15 = .ok (.istore_n 3, 1) := by decide +kernel
theorem dX0_partsBelong_16 : decode cX0_partsBelong 16 = .ok (.iload_n 3, 1) := by decide +kernel
theorem dX0_partsBelong_17 : decode cX0_partsBelong 17 = .ok (.ifCond .lt 12, 3) := by decide +kernel
theorem dX0_partsBelong_20 : decode cX0_partsBelong 20 = .ok (.iload_n 3, 1) := by decide +kernel
theorem dX0_partsBelong_21 : decode cX0_partsBelong 21 = .ok (.getstatic 167, 3) := by decide +kernel
theorem dX0_partsBelong_24 : decode cX0_partsBelong 24 = .ok (.iload_n 2, 1) := by decide +kernel
theorem dX0_partsBelong_25 : decode cX0_partsBelong 25 = .ok (.iaload, 1) := by decide +kernel
theorem dX0_partsBelong_26 : decode cX0_partsBelong 26 = .ok (.if_icmp .lt 5, 3) := by decide +kernel
theorem dX0_partsBelong_29 : decode cX0_partsBelong 29 = .ok (.iconst 0, 1) := by decide +kernel
theorem dX0_partsBelong_30 : decode cX0_partsBelong 30 = .ok (.ireturn, 1) := by decide +kernel
theorem dX0_partsBelong_31 : decode cX0_partsBelong 31 = .ok (.iinc 2 1, 3) := by decide +kernel
theorem dX0_partsBelong_34 : decode cX0_partsBelong 34 = .ok (.goto (-32), 3) := by decide +kernel
theorem dX0_partsBelong_37 : decode cX0_partsBelong 37 = .ok (.lload_n 0, 1) := by decide +kernel
theorem dX0_partsBelong_38 : decode cX0_partsBelong 38 = .ok (.iconst 0, 1) := by decide +kernel
theorem dX0_partsBelong_39 : decode cX0_partsBelong 39 = .ok (.invokestatic 45, 3) := by decide +kernel
theorem dX0_partsBelong_42 : decode cX0_partsBelong 42 = .ok (.lload_n 0, 1) := by decide +kernel
theorem dX0_partsBelong_43 : decode cX0_partsBelong 43 = .ok (.iconst 1, 1) := by decide +kernel
theorem dX0_partsBelong_44 : decode cX0_partsBelong 44 = .ok (.invokestatic 45, 3) := by decide +kernel
theorem dX0_partsBelong_47 : decode cX0_partsBelong 47 = .ok (.lload_n 0, 1) := by decide +kernel
theorem dX0_partsBelong_48 : decode cX0_partsBelong 48 = .ok (.iconst 2, 1) := by decide +kernel
theorem dX0_partsBelong_49 : decode cX0_partsBelong 49 = .ok (.invokestatic 45, 3) := by decide +kernel
theorem dX0_partsBelong_52 : decode cX0_partsBelong 52 = .ok (.lload_n 0, 1) := by decide +kernel
theorem dX0_partsBelong_53 : decode cX0_partsBelong 53 = .ok (.iconst 3, 1) := by decide +kernel
theorem dX0_partsBelong_54 : decode cX0_partsBelong 54 = .ok (.invokestatic 45, 3) := by decide +kernel
theorem dX0_partsBelong_57 : decode cX0_partsBelong 57 = .ok (.invokestatic 28, 3) := by decide +kernel
theorem dX0_partsBelong_60 : decode cX0_partsBelong 60 = .ok (.lstore_n 2, 1) := by decide +kernel
theorem dX0_partsBelong_61 : decode cX0_partsBelong 61 = .ok (.lload_n 2, 1) := by decide +kernel
theorem dX0_partsBelong_62 : decode cX0_partsBelong 62 = .ok (.lload_n 0, 1) := by decide +kernel
theorem dX0_partsBelong_63 : decode cX0_partsBelong 63 = .ok (.lcmp, 1) := by decide +kernel
theorem dX0_partsBelong_64 : decode cX0_partsBelong 64 = .ok (.ifCond .ne 26, 3) := by decide +kernel
theorem dX0_partsBelong_67 : decode cX0_partsBelong 67 = .ok (.lload_n 0, 1) := by decide +kernel
theorem dX0_partsBelong_68 : decode cX0_partsBelong 68 = .ok (.iconst 4, 1) := by decide +kernel
theorem dX0_partsBelong_69 : decode cX0_partsBelong 69 = .ok (.invokestatic 45, 3) := by decide +kernel
theorem dX0_partsBelong_72 : decode cX0_partsBelong 72 = .ok (.i2l, 1) := by decide +kernel
theorem dX0_partsBelong_73 : decode cX0_partsBelong 73 = .ok (.lload_n 0, 1) := by decide +kernel
theorem dX0_partsBelong_74 : decode cX0_partsBelong 74 = .ok (.iconst 3, 1) := by decide +kernel
theorem dX0_partsBelong_75 : decode cX0_partsBelong 75 = .ok (.invokestatic 74, 3) := by decide +kernel
theorem dX0_partsBelong_78 : decode cX0_partsBelong 78 = .ok (.ldc2_w 39, 3) := by decide +kernel
theorem dX0_partsBelong_81 : decode cX0_partsBelong 81 = .ok (.ldiv, 1) := by decide +kernel
theorem dX0_partsBelong_82 : decode cX0_partsBelong 82 = .ok (.lcmp, 1) := by decide +kernel
theorem dX0_partsBelong_83 : decode cX0_partsBelong 83 = .ok (.ifCond .ne 7, 3) := by decide +kernel
theorem dX0_partsBelong_86 : decode cX0_partsBelong 86 = .ok (.iconst 1, 1) := by decide +kernel
theorem dX0_partsBelong_87 : decode cX0_partsBelong 87 = .ok (.goto 4, 3) := by decide +kernel
theorem dX0_partsBelong_90 : decode cX0_partsBelong 90 = .ok (.iconst 0, 1) := by decide +kernel
theorem dX0_partsBelong_91 : decode cX0_partsBelong 91 = .ok (.ireturn, 1) := by decide +kernel
theorem dX0_stepsHold_0 : decode cX0_stepsHold 0 = .ok (.iconst 0, 1) := by decide +kernel
theorem dX0_stepsHold_1 : decode cX0_stepsHold 1 = .ok (.istore_n 2, 1) := by decide +kernel
theorem dX0_stepsHold_2 : decode cX0_stepsHold 2 = .ok (.iload_n 2, 1) := by decide +kernel
theorem dX0_stepsHold_3 : decode cX0_stepsHold 3 = .ok (.bipush 7, 2) := by decide +kernel
theorem dX0_stepsHold_5 : decode cX0_stepsHold 5 = .ok (.if_icmp .ge 48, 3) := by decide +kernel
theorem dX0_stepsHold_8 : decode cX0_stepsHold 8 = .ok (.iconst 0, 1) := by decide +kernel
theorem dX0_stepsHold_9 : decode cX0_stepsHold 9 = .ok (.istore_n 3, 1) := by decide +kernel
theorem dX0_stepsHold_10 : decode cX0_stepsHold 10 = .ok (.iload_n 3, 1) := by decide +kernel
theorem dX0_stepsHold_11 : decode cX0_stepsHold 11 = .ok (.getstatic 220, 3) := by decide +kernel
theorem dX0_stepsHold_14 : decode cX0_stepsHold 14 = .ok (.arraylength, 1) := by decide +kernel
theorem dX0_stepsHold_15 : decode cX0_stepsHold 15 = .ok (.if_icmp .ge 32, 3) := by decide +kernel
theorem dX0_stepsHold_18 : decode cX0_stepsHold 18 = .ok (.iload_n 2, 1) := by decide +kernel
theorem dX0_stepsHold_19 : decode cX0_stepsHold 19 = .ok (.invokestatic 180, 3) := by decide +kernel
theorem dX0_stepsHold_22 : decode cX0_stepsHold 22 = .ok (.ifCond .eq 19, 3) := by decide +kernel
theorem dX0_stepsHold_25 : decode cX0_stepsHold 25 = .ok (.lload_n 0, 1) := by decide +kernel
theorem dX0_stepsHold_26 : decode cX0_stepsHold 26 = .ok (.iload_n 2, 1) := by decide +kernel
theorem dX0_stepsHold_27 : decode cX0_stepsHold 27 = .ok (.getstatic 220, 3) := by decide +kernel
theorem dX0_stepsHold_30 : decode cX0_stepsHold 30 = .ok (.iload_n 3, 1) := by decide +kernel
theorem dX0_stepsHold_31 : decode cX0_stepsHold 31 = .ok (.iaload, 1) := by decide +kernel
theorem dX0_stepsHold_32 : decode cX0_stepsHold 32 = .ok (.i2l, 1) := by decide +kernel
theorem dX0_stepsHold_33 : decode cX0_stepsHold 33 = .ok (.invokestatic 223, 3) := by decide +kernel
theorem dX0_stepsHold_36 : decode cX0_stepsHold 36 = .ok (.ifCond .ne 5, 3) := by decide +kernel
theorem dX0_stepsHold_39 : decode cX0_stepsHold 39 = .ok (.iconst 0, 1) := by decide +kernel
theorem dX0_stepsHold_40 : decode cX0_stepsHold 40 = .ok (.ireturn, 1) := by decide +kernel
theorem dX0_stepsHold_41 : decode cX0_stepsHold 41 = .ok (.iinc 3 1, 3) := by decide +kernel
theorem dX0_stepsHold_44 : decode cX0_stepsHold 44 = .ok (.goto (-34), 3) := by decide +kernel
theorem dX0_stepsHold_47 : decode cX0_stepsHold 47 = .ok (.iinc 2 1, 3) := by decide +kernel
theorem dX0_stepsHold_50 : decode cX0_stepsHold 50 = .ok (.goto (-48), 3) := by decide +kernel
theorem dX0_stepsHold_53 : decode cX0_stepsHold 53 = .ok (.iconst 1, 1) := by decide +kernel
theorem dX0_stepsHold_54 : decode cX0_stepsHold 54 = .ok (.ireturn, 1) := by decide +kernel
theorem dX0_stepHolds_0 : decode cX0_stepHolds 0 = .ok (.lload_n 0, 1) := by decide +kernel
theorem dX0_stepHolds_1 : decode cX0_stepHolds 1 = .ok (.iload_n 2, 1) := by decide +kernel
theorem dX0_stepHolds_2 : decode cX0_stepHolds 2 = .ok (.lload_n 3, 1) := by decide +kernel
theorem dX0_stepHolds_3 : decode cX0_stepHolds 3 = .ok (.invokestatic 65, 3) := by decide +kernel
theorem dX0_stepHolds_6 : decode cX0_stepHolds 6 = .ok (.lstore 5, 2) := by decide +kernel
theorem dX0_stepHolds_8 : decode cX0_stepHolds 8 = .ok (.lload 5, 2) := by decide +kernel
theorem dX0_stepHolds_10 : decode cX0_stepHolds 10 = .ok (.lload_n 0, 1) := by decide +kernel
theorem dX0_stepHolds_11 : decode cX0_stepHolds 11 = .ok (.iload_n 2, 1) := by decide +kernel
theorem dX0_stepHolds_12 : decode cX0_stepHolds 12 = .ok (.lload_n 3, 1) := by decide +kernel
theorem dX0_stepHolds_13 : decode cX0_stepHolds 13 = .ok (.invokestatic 227, 3) := by decide +kernel
theorem dX0_stepHolds_16 : decode cX0_stepHolds 16 = .ok (.lcmp, 1) := by decide +kernel
theorem dX0_stepHolds_17 : decode cX0_stepHolds 17 = .ok (.ifCond .ne 20, 3) := by decide +kernel
theorem dX0_stepHolds_20 : decode cX0_stepHolds 20 = .ok (.lload 5, 2) := by decide +kernel
theorem dX0_stepHolds_22 : decode cX0_stepHolds 22 = .ok (.iload_n 2, 1) := by decide +kernel
theorem dX0_stepHolds_23 : decode cX0_stepHolds 23 = .ok (.lload_n 3, 1) := by decide +kernel
theorem dX0_stepHolds_24 : decode cX0_stepHolds 24 = .ok (.lneg, 1) := by decide +kernel
theorem dX0_stepHolds_25 : decode cX0_stepHolds 25 = .ok (.invokestatic 65, 3) := by decide +kernel
theorem dX0_stepHolds_28 : decode cX0_stepHolds 28 = .ok (.lload_n 0, 1) := by decide +kernel
theorem dX0_stepHolds_29 : decode cX0_stepHolds 29 = .ok (.lcmp, 1) := by decide +kernel
theorem dX0_stepHolds_30 : decode cX0_stepHolds 30 = .ok (.ifCond .ne 7, 3) := by decide +kernel
theorem dX0_stepHolds_33 : decode cX0_stepHolds 33 = .ok (.iconst 1, 1) := by decide +kernel
theorem dX0_stepHolds_34 : decode cX0_stepHolds 34 = .ok (.goto 4, 3) := by decide +kernel
theorem dX0_stepHolds_37 : decode cX0_stepHolds 37 = .ok (.iconst 0, 1) := by decide +kernel
theorem dX0_stepHolds_38 : decode cX0_stepHolds 38 = .ok (.ireturn, 1) := by decide +kernel
theorem dX0_reckonedOn_0 : decode cX0_reckonedOn 0 = .ok (.iload_n 2, 1) := by decide +kernel
theorem dX0_reckonedOn_1 : decode cX0_reckonedOn 1 = .ok (.invokestatic 198, 3) := by decide +kernel
theorem dX0_reckonedOn_4 : decode cX0_reckonedOn 4 = .ok (.lstore 5, 2) := by decide +kernel
theorem dX0_reckonedOn_6 : decode cX0_reckonedOn 6 = .ok (.lload 5, 2) := by decide +kernel
theorem dX0_reckonedOn_8 : decode cX0_reckonedOn 8 = .ok (.ldc2_w 39, 3) := by decide +kernel
theorem dX0_reckonedOn_11 : decode cX0_reckonedOn 11 = .ok (.lcmp, 1) := by decide +kernel
theorem dX0_reckonedOn_12 : decode cX0_reckonedOn 12 = .ok (.ifCond .ge 14, 3) := by decide +kernel
theorem dX0_reckonedOn_15 : decode cX0_reckonedOn 15 = .ok (.lload_n 0, 1) := by decide +kernel
theorem dX0_reckonedOn_16 : decode cX0_reckonedOn 16 = .ok (.lload_n 3, 1) := by decide +kernel
theorem dX0_reckonedOn_17 : decode cX0_reckonedOn 17 = .ok (.lload 5, 2) := by decide +kernel
theorem dX0_reckonedOn_19 : decode cX0_reckonedOn 19 = .ok (.lmul, 1) := by decide +kernel
theorem dX0_reckonedOn_20 : decode cX0_reckonedOn 20 = .ok (.ladd, 1) := by decide +kernel
theorem dX0_reckonedOn_21 : decode cX0_reckonedOn 21 = .ok (.ldc2_w 201, 3) := by decide +kernel
theorem dX0_reckonedOn_24 : decode cX0_reckonedOn 24 = .ok (.lrem, 1) := by decide +kernel
theorem dX0_reckonedOn_25 : decode cX0_reckonedOn 25 = .ok (.lreturn, 1) := by decide +kernel
theorem dX0_reckonedOn_26 : decode cX0_reckonedOn 26 = .ok (.lload_n 0, 1) := by decide +kernel
theorem dX0_reckonedOn_27 : decode cX0_reckonedOn 27 = .ok (.ldc2_w 39, 3) := by decide +kernel
theorem dX0_reckonedOn_30 : decode cX0_reckonedOn 30 = .ok (.ldiv, 1) := by decide +kernel
theorem dX0_reckonedOn_31 : decode cX0_reckonedOn 31 = .ok (.lload_n 3, 1) := by decide +kernel
theorem dX0_reckonedOn_32 : decode cX0_reckonedOn 32 = .ok (.lload 5, 2) := by decide +kernel
theorem dX0_reckonedOn_34 : decode cX0_reckonedOn 34 = .ok (.ldc2_w 39, 3) := by decide +kernel
theorem dX0_reckonedOn_37 : decode cX0_reckonedOn 37 = .ok (.ldiv, 1) := by decide +kernel
theorem dX0_reckonedOn_38 : decode cX0_reckonedOn 38 = .ok (.lmul, 1) := by decide +kernel
theorem dX0_reckonedOn_39 : decode cX0_reckonedOn 39 = .ok (.ladd, 1) := by decide +kernel
theorem dX0_reckonedOn_40 : decode cX0_reckonedOn 40 = .ok (.lstore 7, 2) := by decide +kernel
theorem dX0_reckonedOn_42 : decode cX0_reckonedOn 42 = .ok (.lload 7, 2) := by decide +kernel
theorem dX0_reckonedOn_44 : decode cX0_reckonedOn 44 = .ok (.ldc2_w 230, 3) := by decide +kernel
theorem dX0_reckonedOn_47 : decode cX0_reckonedOn 47 = .ok (.lrem, 1) := by decide +kernel
theorem dX0_reckonedOn_48 : decode cX0_reckonedOn 48 = .ok (.ldc2_w 39, 3) := by decide +kernel
theorem dX0_reckonedOn_51 : decode cX0_reckonedOn 51 = .ok (.lmul, 1) := by decide +kernel
theorem dX0_reckonedOn_52 : decode cX0_reckonedOn 52 = .ok (.lload_n 0, 1) := by decide +kernel
theorem dX0_reckonedOn_53 : decode cX0_reckonedOn 53 = .ok (.ldc2_w 39, 3) := by decide +kernel
theorem dX0_reckonedOn_56 : decode cX0_reckonedOn 56 = .ok (.lrem, 1) := by decide +kernel
theorem dX0_reckonedOn_57 : decode cX0_reckonedOn 57 = .ok (.ladd, 1) := by decide +kernel
theorem dX0_reckonedOn_58 : decode cX0_reckonedOn 58 = .ok (.lreturn, 1) := by decide +kernel
theorem dX0_cutsHold_0 : decode cX0_cutsHold 0 = .ok (.iconst 0, 1) := by decide +kernel
theorem dX0_cutsHold_1 : decode cX0_cutsHold 1 = .ok (.istore_n 2, 1) := by decide +kernel
theorem dX0_cutsHold_2 : decode cX0_cutsHold 2 = .ok (.iload_n 2, 1) := by decide +kernel
theorem dX0_cutsHold_3 : decode cX0_cutsHold 3 = .ok (.bipush 7, 2) := by decide +kernel
theorem dX0_cutsHold_5 : decode cX0_cutsHold 5 = .ok (.if_icmp .gt 54, 3) := by decide +kernel
theorem dX0_cutsHold_8 : decode cX0_cutsHold 8 = .ok (.iload_n 2, 1) := by decide +kernel
theorem dX0_cutsHold_9 : decode cX0_cutsHold 9 = .ok (.invokestatic 198, 3) := by decide +kernel
theorem dX0_cutsHold_12 : decode cX0_cutsHold 12 = .ok (.lstore_n 3, 1) := by decide +kernel
theorem dX0_cutsHold_13 : decode cX0_cutsHold 13 = .ok (.lload_n 0, 1) := by decide +kernel
theorem dX0_cutsHold_14 : decode cX0_cutsHold 14 = .ok (.iload_n 2, 1) := by decide +kernel
theorem dX0_cutsHold_15 : decode cX0_cutsHold 15 = .ok (.invokestatic 74, 3) := by decide +kernel
theorem dX0_cutsHold_18 : decode cX0_cutsHold 18 = .ok (.lstore 5, 2) := by decide +kernel
theorem dX0_cutsHold_20 : decode cX0_cutsHold 20 = .ok (.lload 5, 2) := by decide +kernel
theorem dX0_cutsHold_22 : decode cX0_cutsHold 22 = .ok (.lload_n 0, 1) := by decide +kernel
theorem dX0_cutsHold_23 : decode cX0_cutsHold 23 = .ok (.lcmp, 1) := by decide +kernel
theorem dX0_cutsHold_24 : decode cX0_cutsHold 24 = .ok (.ifCond .gt 27, 3) := by decide +kernel
theorem dX0_cutsHold_27 : decode cX0_cutsHold 27 = .ok (.lload_n 0, 1) := by decide +kernel
theorem dX0_cutsHold_28 : decode cX0_cutsHold 28 = .ok (.lload 5, 2) := by decide +kernel
theorem dX0_cutsHold_30 : decode cX0_cutsHold 30 = .ok (.lsub, 1) := by decide +kernel
theorem dX0_cutsHold_31 : decode cX0_cutsHold 31 = .ok (.lload_n 3, 1) := by decide +kernel
theorem dX0_cutsHold_32 : decode cX0_cutsHold 32 = .ok (.lcmp, 1) := by decide +kernel
theorem dX0_cutsHold_33 : decode cX0_cutsHold 33 = .ok (.ifCond .ge 18, 3) := by decide +kernel
theorem dX0_cutsHold_36 : decode cX0_cutsHold 36 = .ok (.lload_n 3, 1) := by decide +kernel
theorem dX0_cutsHold_37 : decode cX0_cutsHold 37 = .ok (.lconst 0, 1) := by decide +kernel
theorem dX0_cutsHold_38 : decode cX0_cutsHold 38 = .ok (.lcmp, 1) := by decide +kernel
theorem dX0_cutsHold_39 : decode cX0_cutsHold 39 = .ok (.ifCond .le 12, 3) := by decide +kernel
theorem dX0_cutsHold_42 : decode cX0_cutsHold 42 = .ok (.lload 5, 2) := by decide +kernel
theorem dX0_cutsHold_44 : decode cX0_cutsHold 44 = .ok (.lload_n 3, 1) := by decide +kernel
theorem dX0_cutsHold_45 : decode cX0_cutsHold 45 = .ok (.lrem, 1) := by decide +kernel
theorem dX0_cutsHold_46 : decode cX0_cutsHold 46 = .ok (.lconst 0, 1) := by decide +kernel
theorem dX0_cutsHold_47 : decode cX0_cutsHold 47 = .ok (.lcmp, 1) := by decide +kernel
theorem dX0_cutsHold_48 : decode cX0_cutsHold 48 = .ok (.ifCond .eq 5, 3) := by decide +kernel
theorem dX0_cutsHold_51 : decode cX0_cutsHold 51 = .ok (.iconst 0, 1) := by decide +kernel
theorem dX0_cutsHold_52 : decode cX0_cutsHold 52 = .ok (.ireturn, 1) := by decide +kernel
theorem dX0_cutsHold_53 : decode cX0_cutsHold 53 = .ok (.iinc 2 1, 3) := by decide +kernel
theorem dX0_cutsHold_56 : decode cX0_cutsHold 56 = .ok (.goto (-54), 3) := by decide +kernel
theorem dX0_cutsHold_59 : decode cX0_cutsHold 59 = .ok (.iconst 1, 1) := by decide +kernel
theorem dX0_cutsHold_60 : decode cX0_cutsHold 60 = .ok (.ireturn, 1) := by decide +kernel
theorem dX0_pairHolds_0 : decode cX0_pairHolds 0 = .ok (.lload_n 0, 1) := by decide +kernel
theorem dX0_pairHolds_1 : decode cX0_pairHolds 1 = .ok (.lload_n 2, 1) := by decide +kernel
theorem dX0_pairHolds_2 : decode cX0_pairHolds 2 = .ok (.invokestatic 232, 3) := by decide +kernel
theorem dX0_pairHolds_5 : decode cX0_pairHolds 5 = .ok (.lload_n 0, 1) := by decide +kernel
theorem dX0_pairHolds_6 : decode cX0_pairHolds 6 = .ok (.lload_n 2, 1) := by decide +kernel
theorem dX0_pairHolds_7 : decode cX0_pairHolds 7 = .ok (.invokestatic 98, 3) := by decide +kernel
theorem dX0_pairHolds_10 : decode cX0_pairHolds 10 = .ok (.if_icmp .eq 5, 3) := by decide +kernel
theorem dX0_pairHolds_13 : decode cX0_pairHolds 13 = .ok (.iconst 0, 1) := by decide +kernel
theorem dX0_pairHolds_14 : decode cX0_pairHolds 14 = .ok (.ireturn, 1) := by decide +kernel
theorem dX0_pairHolds_15 : decode cX0_pairHolds 15 = .ok (.iconst 0, 1) := by decide +kernel
theorem dX0_pairHolds_16 : decode cX0_pairHolds 16 = .ok (.istore 4, 2) := by decide +kernel
theorem dX0_pairHolds_18 : decode cX0_pairHolds 18 = .ok (.iload 4, 2) := by decide +kernel
theorem dX0_pairHolds_20 : decode cX0_pairHolds 20 = .ok (.bipush 7, 2) := by decide +kernel
theorem dX0_pairHolds_22 : decode cX0_pairHolds 22 = .ok (.if_icmp .ge 32, 3) := by decide +kernel
theorem dX0_pairHolds_25 : decode cX0_pairHolds 25 = .ok (.lload_n 2, 1) := by decide +kernel
theorem dX0_pairHolds_26 : decode cX0_pairHolds 26 = .ok (.lload_n 0, 1) := by decide +kernel
theorem dX0_pairHolds_27 : decode cX0_pairHolds 27 = .ok (.lsub, 1) := by decide +kernel
theorem dX0_pairHolds_28 : decode cX0_pairHolds 28 = .ok (.lload_n 0, 1) := by decide +kernel
theorem dX0_pairHolds_29 : decode cX0_pairHolds 29 = .ok (.lload_n 2, 1) := by decide +kernel
theorem dX0_pairHolds_30 : decode cX0_pairHolds 30 = .ok (.iload 4, 2) := by decide +kernel
theorem dX0_pairHolds_32 : decode cX0_pairHolds 32 = .ok (.invokestatic 102, 3) := by decide +kernel
theorem dX0_pairHolds_35 : decode cX0_pairHolds 35 = .ok (.iload 4, 2) := by decide +kernel
theorem dX0_pairHolds_37 : decode cX0_pairHolds 37 = .ok (.invokestatic 198, 3) := by decide +kernel
theorem dX0_pairHolds_40 : decode cX0_pairHolds 40 = .ok (.invokestatic 235, 3) := by decide +kernel
theorem dX0_pairHolds_43 : decode cX0_pairHolds 43 = .ok (.ifCond .ne 5, 3) := by decide +kernel
theorem dX0_pairHolds_46 : decode cX0_pairHolds 46 = .ok (.iconst 0, 1) := by decide +kernel
theorem dX0_pairHolds_47 : decode cX0_pairHolds 47 = .ok (.ireturn, 1) := by decide +kernel
theorem dX0_pairHolds_48 : decode cX0_pairHolds 48 = .ok (.iinc 4 1, 3) := by decide +kernel
theorem dX0_pairHolds_51 : decode cX0_pairHolds 51 = .ok (.goto (-33), 3) := by decide +kernel
theorem dX0_pairHolds_54 : decode cX0_pairHolds 54 = .ok (.lload_n 0, 1) := by decide +kernel
theorem dX0_pairHolds_55 : decode cX0_pairHolds 55 = .ok (.iconst 0, 1) := by decide +kernel
theorem dX0_pairHolds_56 : decode cX0_pairHolds 56 = .ok (.lload_n 0, 1) := by decide +kernel
theorem dX0_pairHolds_57 : decode cX0_pairHolds 57 = .ok (.lload_n 2, 1) := by decide +kernel
theorem dX0_pairHolds_58 : decode cX0_pairHolds 58 = .ok (.iconst 0, 1) := by decide +kernel
theorem dX0_pairHolds_59 : decode cX0_pairHolds 59 = .ok (.invokestatic 102, 3) := by decide +kernel
theorem dX0_pairHolds_62 : decode cX0_pairHolds 62 = .ok (.invokestatic 65, 3) := by decide +kernel
theorem dX0_pairHolds_65 : decode cX0_pairHolds 65 = .ok (.lload_n 2, 1) := by decide +kernel
theorem dX0_pairHolds_66 : decode cX0_pairHolds 66 = .ok (.lcmp, 1) := by decide +kernel
theorem dX0_pairHolds_67 : decode cX0_pairHolds 67 = .ok (.ifCond .ne 7, 3) := by decide +kernel
theorem dX0_pairHolds_70 : decode cX0_pairHolds 70 = .ok (.iconst 1, 1) := by decide +kernel
theorem dX0_pairHolds_71 : decode cX0_pairHolds 71 = .ok (.goto 4, 3) := by decide +kernel
theorem dX0_pairHolds_74 : decode cX0_pairHolds 74 = .ok (.iconst 0, 1) := by decide +kernel
theorem dX0_pairHolds_75 : decode cX0_pairHolds 75 = .ok (.ireturn, 1) := by decide +kernel
theorem dX0_comparedByParts_0 : decode cX0_comparedByParts 0 = .ok (.iconst 0, 1) := by decide +kernel
theorem dX0_comparedByParts_1 : decode cX0_comparedByParts 1 = .ok (.istore 4, 2) := by decide +kernel
theorem dX0_comparedByParts_3 : decode cX0_comparedByParts 3 = .ok (.iload 4, 2) := by decide +kernel
theorem dX0_comparedByParts_5 : decode cX0_comparedByParts 5 = .ok (.iconst 3, 1) := by decide +kernel
theorem dX0_comparedByParts_6 : decode cX0_comparedByParts 6 = .ok (.if_icmp .gt 36, 3) := by decide +kernel
theorem dX0_comparedByParts_9 : decode cX0_comparedByParts 9 = .ok (.lload_n 0, 1) := by decide +kernel
theorem dX0_comparedByParts_10 : decode cX0_comparedByParts 10 = .ok (.iload 4, 2) := by decide +kernel
theorem dX0_comparedByParts_12 : decode cX0_comparedByParts 12 = .ok (.invokestatic 45, 3) := by decide +kernel
theorem dX0_comparedByParts_15 : decode cX0_comparedByParts 15 = .ok (.i2l, 1) := by decide +kernel
theorem dX0_comparedByParts_16 : decode cX0_comparedByParts 16 = .ok (.lload_n 2, 1) := by decide +kernel
theorem dX0_comparedByParts_17 : decode cX0_comparedByParts 17 = .ok (.iload 4, 2) := by decide +kernel
theorem dX0_comparedByParts_19 : decode cX0_comparedByParts 19 = .ok (.invokestatic 45, 3) := by decide +kernel
theorem dX0_comparedByParts_22 : decode cX0_comparedByParts 22 = .ok (.i2l, 1) := by decide +kernel
theorem dX0_comparedByParts_23 : decode cX0_comparedByParts 23 = .ok (.invokestatic 98, 3) := by decide +kernel
theorem dX0_comparedByParts_26 : decode cX0_comparedByParts 26 = .ok (.istore 5, 2) := by decide +kernel
theorem dX0_comparedByParts_28 : decode cX0_comparedByParts 28 = .ok (.iload 5, 2) := by decide +kernel
theorem dX0_comparedByParts_30 : decode cX0_comparedByParts 30 = .ok (.ifCond .eq 6, 3) := by decide +kernel
theorem dX0_comparedByParts_33 : decode cX0_comparedByParts 33 = .ok (.iload 5, 2) := by decide +kernel
theorem dX0_comparedByParts_35 : decode cX0_comparedByParts 35 = .ok (.ireturn, 1) := by decide +kernel
theorem dX0_comparedByParts_36 : decode cX0_comparedByParts 36 = .ok (.iinc 4 1, 3) := by decide +kernel
theorem dX0_comparedByParts_39 : decode cX0_comparedByParts 39 = .ok (.goto (-36), 3) := by decide +kernel
theorem dX0_comparedByParts_42 : decode cX0_comparedByParts 42 = .ok (.iconst 0, 1) := by decide +kernel
theorem dX0_comparedByParts_43 : decode cX0_comparedByParts 43 = .ok (.ireturn, 1) := by decide +kernel
theorem dX0_betweenHolds_0 : decode cX0_betweenHolds 0 = .ok (.lload_n 0, 1) := by decide +kernel
theorem dX0_betweenHolds_1 : decode cX0_betweenHolds 1 = .ok (.lload_n 2, 1) := by decide +kernel
theorem dX0_betweenHolds_2 : decode cX0_betweenHolds 2 = .ok (.lload 4, 2) := by decide +kernel
theorem dX0_betweenHolds_4 : decode cX0_betweenHolds 4 = .ok (.lmul, 1) := by decide +kernel
theorem dX0_betweenHolds_5 : decode cX0_betweenHolds 5 = .ok (.lsub, 1) := by decide +kernel
theorem dX0_betweenHolds_6 : decode cX0_betweenHolds 6 = .ok (.lstore 6, 2) := by decide +kernel
theorem dX0_betweenHolds_8 : decode cX0_betweenHolds 8 = .ok (.lload_n 0, 1) := by decide +kernel
theorem dX0_betweenHolds_9 : decode cX0_betweenHolds 9 = .ok (.lconst 0, 1) := by decide +kernel
theorem dX0_betweenHolds_10 : decode cX0_betweenHolds 10 = .ok (.lcmp, 1) := by decide +kernel
theorem dX0_betweenHolds_11 : decode cX0_betweenHolds 11 = .ok (.ifCond .ge 24, 3) := by decide +kernel
theorem dX0_betweenHolds_14 : decode cX0_betweenHolds 14 = .ok (.lload_n 2, 1) := by decide +kernel
theorem dX0_betweenHolds_15 : decode cX0_betweenHolds 15 = .ok (.lconst 0, 1) := by decide +kernel
theorem dX0_betweenHolds_16 : decode cX0_betweenHolds 16 = .ok (.lcmp, 1) := by decide +kernel
theorem dX0_betweenHolds_17 : decode cX0_betweenHolds 17 = .ok (.ifCond .gt 14, 3) := by decide +kernel
theorem dX0_betweenHolds_20 : decode cX0_betweenHolds 20 = .ok (.lload 6, 2) := by decide +kernel
theorem dX0_betweenHolds_22 : decode cX0_betweenHolds 22 = .ok (.lconst 0, 1) := by decide +kernel
theorem dX0_betweenHolds_23 : decode cX0_betweenHolds 23 = .ok (.lcmp, 1) := by decide +kernel
theorem dX0_betweenHolds_24 : decode cX0_betweenHolds 24 = .ok (.ifCond .gt 7, 3) := by decide +kernel
theorem dX0_betweenHolds_27 : decode cX0_betweenHolds 27 = .ok (.iconst 1, 1) := by decide +kernel
theorem dX0_betweenHolds_28 : decode cX0_betweenHolds 28 = .ok (.goto 25, 3) := by decide +kernel
theorem dX0_betweenHolds_31 : decode cX0_betweenHolds 31 = .ok (.iconst 0, 1) := by decide +kernel
theorem dX0_betweenHolds_32 : decode cX0_betweenHolds 32 = .ok (.goto 21, 3) := by decide +kernel
theorem dX0_betweenHolds_35 : decode cX0_betweenHolds 35 = .ok (.lload_n 2, 1) := by decide +kernel
theorem dX0_betweenHolds_36 : decode cX0_betweenHolds 36 = .ok (.lconst 0, 1) := by decide +kernel
theorem dX0_betweenHolds_37 : decode cX0_betweenHolds 37 = .ok (.lcmp, 1) := by decide +kernel
theorem dX0_betweenHolds_38 : decode cX0_betweenHolds 38 = .ok (.ifCond .lt 14, 3) := by decide +kernel
theorem dX0_betweenHolds_41 : decode cX0_betweenHolds 41 = .ok (.lload 6, 2) := by decide +kernel
theorem dX0_betweenHolds_43 : decode cX0_betweenHolds 43 = .ok (.lconst 0, 1) := by decide +kernel
theorem dX0_betweenHolds_44 : decode cX0_betweenHolds 44 = .ok (.lcmp, 1) := by decide +kernel
theorem dX0_betweenHolds_45 : decode cX0_betweenHolds 45 = .ok (.ifCond .lt 7, 3) := by decide +kernel
theorem dX0_betweenHolds_48 : decode cX0_betweenHolds 48 = .ok (.iconst 1, 1) := by decide +kernel
theorem dX0_betweenHolds_49 : decode cX0_betweenHolds 49 = .ok (.goto 4, 3) := by decide +kernel
theorem dX0_betweenHolds_52 : decode cX0_betweenHolds 52 = .ok (.iconst 0, 1) := by decide +kernel
theorem dX0_betweenHolds_53 : decode cX0_betweenHolds 53 = .ok (.istore 8, 2) := by decide +kernel
theorem dX0_betweenHolds_55 : decode cX0_betweenHolds 55 = .ok (.iload 8, 2) := by decide +kernel
theorem dX0_betweenHolds_57 : decode cX0_betweenHolds 57 = .ok (.ifCond .eq 18, 3) := by decide +kernel
theorem dX0_betweenHolds_60 : decode cX0_betweenHolds 60 = .ok (.lload 6, 2) := by decide +kernel
theorem dX0_betweenHolds_62 : decode cX0_betweenHolds 62 = .ok (.invokestatic 208, 3) := by decide +kernel
theorem dX0_betweenHolds_65 : decode cX0_betweenHolds 65 = .ok (.lload 4, 2) := by decide +kernel
theorem dX0_betweenHolds_67 : decode cX0_betweenHolds 67 = .ok (.lcmp, 1) := by decide +kernel
theorem dX0_betweenHolds_68 : decode cX0_betweenHolds 68 = .ok (.ifCond .ge 7, 3) := by decide +kernel
theorem dX0_betweenHolds_71 : decode cX0_betweenHolds 71 = .ok (.iconst 1, 1) := by decide +kernel
theorem dX0_betweenHolds_72 : decode cX0_betweenHolds 72 = .ok (.goto 4, 3) := by decide +kernel
theorem dX0_betweenHolds_75 : decode cX0_betweenHolds 75 = .ok (.iconst 0, 1) := by decide +kernel
theorem dX0_betweenHolds_76 : decode cX0_betweenHolds 76 = .ok (.ireturn, 1) := by decide +kernel
theorem dX0_digestClock_0 : decode cX0_digestClock 0 = .ok (.lload_n 0, 1) := by decide +kernel
theorem dX0_digestClock_1 : decode cX0_digestClock 1 = .ok (.lstore 4, 2) := by decide +kernel
theorem dX0_digestClock_3 : decode cX0_digestClock 3 = .ok (.iconst 0, 1) := by decide +kernel
theorem dX0_digestClock_4 : decode cX0_digestClock 4 = .ok (.istore 6, 2) := by decide +kernel
theorem dX0_digestClock_6 : decode cX0_digestClock 6 = .ok (.iload 6, 2) := by decide +kernel
theorem dX0_digestClock_8 : decode cX0_digestClock 8 = .ok (.iconst 4, 1) := by decide +kernel
theorem dX0_digestClock_9 : decode cX0_digestClock 9 = .ok (.if_icmp .gt 25, 3) := by decide +kernel
theorem dX0_digestClock_12 : decode cX0_digestClock 12 = .ok (.lload 4, 2) := by decide +kernel
theorem dX0_digestClock_14 : decode cX0_digestClock 14 = .ok (.ldc2_w 132, 3) := by decide +kernel
theorem dX0_digestClock_17 : decode cX0_digestClock 17 = .ok (.lmul, 1) := by decide +kernel
theorem dX0_digestClock_18 : decode cX0_digestClock 18 = .ok (.lload_n 2, 1) := by decide +kernel
theorem dX0_digestClock_19 : decode cX0_digestClock 19 = .ok (.iload 6, 2) := by decide +kernel
theorem dX0_digestClock_21 : decode cX0_digestClock 21 = .ok (.invokestatic 45, 3) := by decide +kernel
theorem dX0_digestClock_24 : decode cX0_digestClock 24 = .ok (.i2l, 1) := by decide +kernel
theorem dX0_digestClock_25 : decode cX0_digestClock 25 = .ok (.ladd, 1) := by decide +kernel
theorem dX0_digestClock_26 : decode cX0_digestClock 26 = .ok (.lstore 4, 2) := by decide +kernel
theorem dX0_digestClock_28 : decode cX0_digestClock 28 = .ok (.iinc 6 1, 3) := by decide +kernel
theorem dX0_digestClock_31 : decode cX0_digestClock 31 = .ok (.goto (-25), 3) := by decide +kernel
theorem dX0_digestClock_34 : decode cX0_digestClock 34 = .ok (.lload 4, 2) := by decide +kernel
theorem dX0_digestClock_36 : decode cX0_digestClock 36 = .ok (.ldc2_w 132, 3) := by decide +kernel
theorem dX0_digestClock_39 : decode cX0_digestClock 39 = .ok (.lmul, 1) := by decide +kernel
theorem dX0_digestClock_40 : decode cX0_digestClock 40 = .ok (.lload_n 2, 1) := by decide +kernel
theorem dX0_digestClock_41 : decode cX0_digestClock 41 = .ok (.ladd, 1) := by decide +kernel
theorem dX0_digestClock_42 : decode cX0_digestClock 42 = .ok (.lreturn, 1) := by decide +kernel
theorem dX0_digestPair_0 : decode cX0_digestPair 0 = .ok (.lload_n 0, 1) := by decide +kernel
theorem dX0_digestPair_1 : decode cX0_digestPair 1 = .ok (.ldc2_w 132, 3) := by decide +kernel
theorem dX0_digestPair_4 : decode cX0_digestPair 4 = .ok (.lmul, 1) := by decide +kernel
theorem dX0_digestPair_5 : decode cX0_digestPair 5 = .ok (.lload_n 2, 1) := by decide +kernel
theorem dX0_digestPair_6 : decode cX0_digestPair 6 = .ok (.lload 4, 2) := by decide +kernel
theorem dX0_digestPair_8 : decode cX0_digestPair 8 = .ok (.invokestatic 98, 3) := by decide +kernel
theorem dX0_digestPair_11 : decode cX0_digestPair 11 = .ok (.i2l, 1) := by decide +kernel
theorem dX0_digestPair_12 : decode cX0_digestPair 12 = .ok (.ladd, 1) := by decide +kernel
theorem dX0_digestPair_13 : decode cX0_digestPair 13 = .ok (.lstore 6, 2) := by decide +kernel
theorem dX0_digestPair_15 : decode cX0_digestPair 15 = .ok (.iconst 0, 1) := by decide +kernel
theorem dX0_digestPair_16 : decode cX0_digestPair 16 = .ok (.istore 8, 2) := by decide +kernel
theorem dX0_digestPair_18 : decode cX0_digestPair 18 = .ok (.iload 8, 2) := by decide +kernel
theorem dX0_digestPair_20 : decode cX0_digestPair 20 = .ok (.bipush 7, 2) := by decide +kernel
theorem dX0_digestPair_22 : decode cX0_digestPair 22 = .ok (.if_icmp .ge 26, 3) := by decide +kernel
theorem dX0_digestPair_25 : decode cX0_digestPair 25 = .ok (.lload 6, 2) := by decide +kernel
theorem dX0_digestPair_27 : decode cX0_digestPair 27 = .ok (.ldc2_w 132, 3) := by decide +kernel
theorem dX0_digestPair_30 : decode cX0_digestPair 30 = .ok (.lmul, 1) := by decide +kernel
theorem dX0_digestPair_31 : decode cX0_digestPair 31 = .ok (.lload_n 2, 1) := by decide +kernel
theorem dX0_digestPair_32 : decode cX0_digestPair 32 = .ok (.lload 4, 2) := by decide +kernel
theorem dX0_digestPair_34 : decode cX0_digestPair 34 = .ok (.iload 8, 2) := by decide +kernel
theorem dX0_digestPair_36 : decode cX0_digestPair 36 = .ok (.invokestatic 102, 3) := by decide +kernel
theorem dX0_digestPair_39 : decode cX0_digestPair 39 = .ok (.ladd, 1) := by decide +kernel
theorem dX0_digestPair_40 : decode cX0_digestPair 40 = .ok (.lstore 6, 2) := by decide +kernel
theorem dX0_digestPair_42 : decode cX0_digestPair 42 = .ok (.iinc 8 1, 3) := by decide +kernel
theorem dX0_digestPair_45 : decode cX0_digestPair 45 = .ok (.goto (-27), 3) := by decide +kernel
theorem dX0_digestPair_48 : decode cX0_digestPair 48 = .ok (.lload 6, 2) := by decide +kernel
theorem dX0_digestPair_50 : decode cX0_digestPair 50 = .ok (.lreturn, 1) := by decide +kernel
theorem dX1_init_0 : decode cX1_init 0 = .ok (.aload_n 0, 1) := by decide +kernel
theorem dX1_init_1 : decode cX1_init 1 = .ok (.invokespecial 1, 3) := by decide +kernel
theorem dX1_init_4 : decode cX1_init 4 = .ok (.return_, 1) := by decide +kernel
theorem dX2_init_0 : decode cX2_init 0 = .ok (.aload_n 0, 1) := by decide +kernel
theorem dX2_init_1 : decode cX2_init 1 = .ok (.invokespecial 3, 3) := by decide +kernel
theorem dX2_init_4 : decode cX2_init 4 = .ok (.aload_n 0, 1) := by decide +kernel
theorem dX2_init_5 : decode cX2_init 5 = .ok (.bipush 8, 2) := by decide +kernel
theorem dX2_init_7 : decode cX2_init 7 = .ok (.newarray .long, 2) := by decide +kernel
theorem dX2_init_9 : decode cX2_init 9 = .ok (.putfield 9, 3) := by decide +kernel
theorem dX2_init_12 : decode cX2_init 12 = .ok (.return_, 1) := by decide +kernel
theorem dX2_thrown_0 : decode cX2_thrown 0 = .ok (.aload_n 0, 1) := by decide +kernel
theorem dX2_thrown_1 : decode cX2_thrown 1 = .ok (.getfield 13, 3) := by decide +kernel
theorem dX2_thrown_4 : decode cX2_thrown 4 = .ok (.ireturn, 1) := by decide +kernel
theorem dX2_isIn_0 : decode cX2_isIn 0 = .ok (.iload_n 0, 1) := by decide +kernel
theorem dX2_isIn_1 : decode cX2_isIn 1 = .ok (.iload_n 1, 1) := by decide +kernel
theorem dX2_isIn_2 : decode cX2_isIn 2 = .ok (.if_icmp .lt 12, 3) := by decide +kernel
theorem dX2_isIn_5 : decode cX2_isIn 5 = .ok (.iload_n 0, 1) := by decide +kernel
theorem dX2_isIn_6 : decode cX2_isIn 6 = .ok (.iload_n 2, 1) := by decide +kernel
theorem dX2_isIn_7 : decode cX2_isIn 7 = .ok (.if_icmp .gt 7, 3) := by decide +kernel
theorem dX2_isIn_10 : decode cX2_isIn 10 = .ok (.iconst 1, 1) := by decide +kernel
theorem dX2_isIn_11 : decode cX2_isIn 11 = .ok (.goto 4, 3) := by decide +kernel
theorem dX2_isIn_14 : decode cX2_isIn 14 = .ok (.iconst 0, 1) := by decide +kernel
theorem dX2_isIn_15 : decode cX2_isIn 15 = .ok (.ireturn, 1) := by decide +kernel
theorem dX2_isNone_0 : decode cX2_isNone 0 = .ok (.iload_n 0, 1) := by decide +kernel
theorem dX2_isNone_1 : decode cX2_isNone 1 = .ok (.iconst 0, 1) := by decide +kernel
theorem dX2_isNone_2 : decode cX2_isNone 2 = .ok (.bipush 7, 2) := by decide +kernel
theorem dX2_isNone_4 : decode cX2_isNone 4 = .ok (.invokestatic 17, 3) := by decide +kernel
theorem dX2_isNone_7 : decode cX2_isNone 7 = .ok (.ifCond .ne 7, 3) := by decide +kernel
theorem dX2_isNone_10 : decode cX2_isNone 10 = .ok (.iconst 1, 1) := by decide +kernel
theorem dX2_isNone_11 : decode cX2_isNone 11 = .ok (.goto 4, 3) := by decide +kernel
theorem dX2_isNone_14 : decode cX2_isNone 14 = .ok (.iconst 0, 1) := by decide +kernel
theorem dX2_isNone_15 : decode cX2_isNone 15 = .ok (.ireturn, 1) := by decide +kernel
theorem dX2_isStopped_0 : decode cX2_isStopped 0 = .ok (.aload_n 0, 1) := by decide +kernel
theorem dX2_isStopped_1 : decode cX2_isStopped 1 = .ok (.iload_n 1, 1) := by decide +kernel
theorem dX2_isStopped_2 : decode cX2_isStopped 2 = .ok (.ifCond .eq 7, 3) := by decide +kernel
theorem dX2_isStopped_5 : decode cX2_isStopped 5 = .ok (.iconst 1, 1) := by decide +kernel
theorem dX2_isStopped_6 : decode cX2_isStopped 6 = .ok (.goto 12, 3) := by decide +kernel
theorem dX2_isStopped_9 : decode cX2_isStopped 9 = .ok (.iload_n 2, 1) := by decide +kernel
theorem dX2_isStopped_10 : decode cX2_isStopped 10 = .ok (.ifCond .eq 7, 3) := by decide +kernel
theorem dX2_isStopped_13 : decode cX2_isStopped 13 = .ok (.iconst 2, 1) := by decide +kernel
theorem dX2_isStopped_14 : decode cX2_isStopped 14 = .ok (.goto 4, 3) := by decide +kernel
theorem dX2_isStopped_17 : decode cX2_isStopped 17 = .ok (.iconst 0, 1) := by decide +kernel
theorem dX2_isStopped_18 : decode cX2_isStopped 18 = .ok (.putfield 13, 3) := by decide +kernel
theorem dX2_isStopped_21 : decode cX2_isStopped 21 = .ok (.aload_n 0, 1) := by decide +kernel
theorem dX2_isStopped_22 : decode cX2_isStopped 22 = .ok (.getfield 13, 3) := by decide +kernel
theorem dX2_isStopped_25 : decode cX2_isStopped 25 = .ok (.ifCond .le 7, 3) := by decide +kernel
theorem dX2_isStopped_28 : decode cX2_isStopped 28 = .ok (.iconst 1, 1) := by decide +kernel
theorem dX2_isStopped_29 : decode cX2_isStopped 29 = .ok (.goto 4, 3) := by decide +kernel
theorem dX2_isStopped_32 : decode cX2_isStopped 32 = .ok (.iconst 0, 1) := by decide +kernel
theorem dX2_isStopped_33 : decode cX2_isStopped 33 = .ok (.ireturn, 1) := by decide +kernel
theorem dX2_size_0 : decode cX2_size 0 = .ok (.lconst 1, 1) := by decide +kernel
theorem dX2_size_1 : decode cX2_size 1 = .ok (.lstore_n 1, 1) := by decide +kernel
theorem dX2_size_2 : decode cX2_size 2 = .ok (.iconst 0, 1) := by decide +kernel
theorem dX2_size_3 : decode cX2_size 3 = .ok (.istore_n 3, 1) := by decide +kernel
theorem dX2_size_4 : decode cX2_size 4 = .ok (.iload_n 3, 1) := by decide +kernel
theorem dX2_size_5 : decode cX2_size 5 = .ok (.iload_n 0, 1) := by decide +kernel
theorem dX2_size_6 : decode cX2_size 6 = .ok (.if_icmp .ge 20, 3) := by decide +kernel
theorem dX2_size_9 : decode cX2_size 9 = .ok (.iload_n 3, 1) := by decide +kernel
theorem dX2_size_10 : decode cX2_size 10 = .ok (.iconst 3, 1) := by decide +kernel
theorem dX2_size_11 : decode cX2_size 11 = .ok (.if_icmp .ge 15, 3) := by decide +kernel
theorem dX2_size_14 : decode cX2_size 14 = .ok (.lload_n 1, 1) := by decide +kernel
theorem dX2_size_15 : decode cX2_size 15 = .ok (.ldc2_w 21, 3) := by decide +kernel
theorem dX2_size_18 : decode cX2_size 18 = .ok (.lmul, 1) := by decide +kernel
theorem dX2_size_19 : decode cX2_size 19 = .ok (.lstore_n 1, 1) := by decide +kernel
theorem dX2_size_20 : decode cX2_size 20 = .ok (.iinc 3 1, 3) := by decide +kernel
theorem dX2_size_23 : decode cX2_size 23 = .ok (.goto (-19), 3) := by decide +kernel
theorem dX2_size_26 : decode cX2_size 26 = .ok (.iconst 3, 1) := by decide +kernel
theorem dX2_size_27 : decode cX2_size 27 = .ok (.istore_n 3, 1) := by decide +kernel
theorem dX2_size_28 : decode cX2_size 28 = .ok (.iload_n 3, 1) := by decide +kernel
theorem dX2_size_29 : decode cX2_size 29 = .ok (.iload_n 0, 1) := by decide +kernel
theorem dX2_size_30 : decode cX2_size 30 = .ok (.if_icmp .ge 37, 3) := by decide +kernel
theorem dX2_size_33 : decode cX2_size 33 = .ok (.lload_n 1, 1) := by decide +kernel
theorem dX2_size_34 : decode cX2_size 34 = .ok (.iload_n 3, 1) := by decide +kernel
theorem dX2_size_35 : decode cX2_size 35 = .ok (.iconst 5, 1) := by decide +kernel
theorem dX2_size_36 : decode cX2_size 36 = .ok (.if_icmp .ge 9, 3) := by decide +kernel
theorem dX2_size_39 : decode cX2_size 39 = .ok (.ldc2_w 23, 3) := by decide +kernel
theorem dX2_size_42 : decode cX2_size 42 = .ok (.goto 17, 3) := by decide +kernel
theorem dX2_size_45 : decode cX2_size 45 = .ok (.iload_n 3, 1) := by decide +kernel
theorem dX2_size_46 : decode cX2_size 46 = .ok (.iconst 5, 1) := by decide +kernel
theorem dX2_size_47 : decode cX2_size 47 = .ok (.if_icmp .ne 9, 3) := by decide +kernel
theorem dX2_size_50 : decode cX2_size 50 = .ok (.ldc2_w 25, 3) := by decide +kernel
theorem dX2_size_53 : decode cX2_size 53 = .ok (.goto 6, 3) := by decide +kernel
theorem dX2_size_56 : decode cX2_size 56 = .ok (.ldc2_w 27, 3) := by decide +kernel
theorem dX2_size_59 : decode cX2_size 59 = .ok (.lmul, 1) := by decide +kernel
theorem dX2_size_60 : decode cX2_size 60 = .ok (.lstore_n 1, 1) := by decide +kernel
theorem dX2_size_61 : decode cX2_size 61 = .ok (.iinc 3 1, 3) := by decide +kernel
theorem dX2_size_64 : decode cX2_size 64 = .ok (.goto (-36), 3) := by decide +kernel
theorem dX2_size_67 : decode cX2_size 67 = .ok (.lload_n 1, 1) := by decide +kernel
theorem dX2_size_68 : decode cX2_size 68 = .ok (.lreturn, 1) := by decide +kernel
theorem dX2_secondOf_0 : decode cX2_secondOf 0 = .ok (.lload_n 0, 1) := by decide +kernel
theorem dX2_secondOf_1 : decode cX2_secondOf 1 = .ok (.ldc2_w 29, 3) := by decide +kernel
theorem dX2_secondOf_4 : decode cX2_secondOf 4 = .ok (.ldiv, 1) := by decide +kernel
theorem dX2_secondOf_5 : decode cX2_secondOf 5 = .ok (.l2i, 1) := by decide +kernel
theorem dX2_secondOf_6 : decode cX2_secondOf 6 = .ok (.ireturn, 1) := by decide +kernel
theorem dX2_part_0 : decode cX2_part 0 = .ok (.lload_n 0, 1) := by decide +kernel
theorem dX2_part_1 : decode cX2_part 1 = .ok (.invokestatic 31, 3) := by decide +kernel
theorem dX2_part_4 : decode cX2_part 4 = .ok (.istore_n 3, 1) := by decide +kernel
theorem dX2_part_5 : decode cX2_part 5 = .ok (.iload_n 2, 1) := by decide +kernel
theorem dX2_part_6 : decode cX2_part 6 = .ok (.tableswitch 57 0 3 #[30, 36, 45, 50], 30) := by decide +kernel
theorem dX2_part_36 : decode cX2_part 36 = .ok (.iload_n 3, 1) := by decide +kernel
theorem dX2_part_37 : decode cX2_part 37 = .ok (.sipush 3600, 3) := by decide +kernel
theorem dX2_part_40 : decode cX2_part 40 = .ok (.idiv, 1) := by decide +kernel
theorem dX2_part_41 : decode cX2_part 41 = .ok (.ireturn, 1) := by decide +kernel
theorem dX2_part_42 : decode cX2_part 42 = .ok (.iload_n 3, 1) := by decide +kernel
theorem dX2_part_43 : decode cX2_part 43 = .ok (.sipush 3600, 3) := by decide +kernel
theorem dX2_part_46 : decode cX2_part 46 = .ok (.irem, 1) := by decide +kernel
theorem dX2_part_47 : decode cX2_part 47 = .ok (.bipush 60, 2) := by decide +kernel
theorem dX2_part_49 : decode cX2_part 49 = .ok (.idiv, 1) := by decide +kernel
theorem dX2_part_50 : decode cX2_part 50 = .ok (.ireturn, 1) := by decide +kernel
theorem dX2_part_51 : decode cX2_part 51 = .ok (.iload_n 3, 1) := by decide +kernel
theorem dX2_part_52 : decode cX2_part 52 = .ok (.bipush 60, 2) := by decide +kernel
theorem dX2_part_54 : decode cX2_part 54 = .ok (.irem, 1) := by decide +kernel
theorem dX2_part_55 : decode cX2_part 55 = .ok (.ireturn, 1) := by decide +kernel
theorem dX2_part_56 : decode cX2_part 56 = .ok (.lload_n 0, 1) := by decide +kernel
theorem dX2_part_57 : decode cX2_part 57 = .ok (.ldc2_w 29, 3) := by decide +kernel
theorem dX2_part_60 : decode cX2_part 60 = .ok (.lrem, 1) := by decide +kernel
theorem dX2_part_61 : decode cX2_part 61 = .ok (.l2i, 1) := by decide +kernel
theorem dX2_part_62 : decode cX2_part 62 = .ok (.ireturn, 1) := by decide +kernel
theorem dX2_part_63 : decode cX2_part 63 = .ok (.iload_n 3, 1) := by decide +kernel
theorem dX2_part_64 : decode cX2_part 64 = .ok (.ireturn, 1) := by decide +kernel
theorem dX2_set_0 : decode cX2_set 0 = .ok (.aload_n 0, 1) := by decide +kernel
theorem dX2_set_1 : decode cX2_set 1 = .ok (.getfield 9, 3) := by decide +kernel
theorem dX2_set_4 : decode cX2_set 4 = .ok (.iload_n 1, 1) := by decide +kernel
theorem dX2_set_5 : decode cX2_set 5 = .ok (.lload_n 2, 1) := by decide +kernel
theorem dX2_set_6 : decode cX2_set 6 = .ok (.lastore, 1) := by decide +kernel
theorem dX2_set_7 : decode cX2_set 7 = .ok (.aload_n 0, 1) := by decide +kernel
theorem dX2_set_8 : decode cX2_set 8 = .ok (.dup, 1) := by decide +kernel
theorem dX2_set_9 : decode cX2_set 9 = .ok (.getfield 35, 3) := by decide +kernel
theorem dX2_set_12 : decode cX2_set 12 = .ok (.iconst 1, 1) := by decide +kernel
theorem dX2_set_13 : decode cX2_set 13 = .ok (.iadd, 1) := by decide +kernel
theorem dX2_set_14 : decode cX2_set 14 = .ok (.putfield 35, 3) := by decide +kernel
theorem dX2_set_17 : decode cX2_set 17 = .ok (.lload_n 2, 1) := by decide +kernel
theorem dX2_set_18 : decode cX2_set 18 = .ok (.invokestatic 31, 3) := by decide +kernel
theorem dX2_set_21 : decode cX2_set 21 = .ok (.ireturn, 1) := by decide +kernel
theorem dX2_tell_0 : decode cX2_tell 0 = .ok (.aload_n 0, 1) := by decide +kernel
theorem dX2_tell_1 : decode cX2_tell 1 = .ok (.iload_n 1, 1) := by decide +kernel
theorem dX2_tell_2 : decode cX2_tell 2 = .ok (.invokestatic 38, 3) := by decide +kernel
theorem dX2_tell_5 : decode cX2_tell 5 = .ok (.iload_n 2, 1) := by decide +kernel
theorem dX2_tell_6 : decode cX2_tell 6 = .ok (.iconst 0, 1) := by decide +kernel
theorem dX2_tell_7 : decode cX2_tell 7 = .ok (.bipush 23, 2) := by decide +kernel
theorem dX2_tell_9 : decode cX2_tell 9 = .ok (.invokestatic 17, 3) := by decide +kernel
theorem dX2_tell_12 : decode cX2_tell 12 = .ok (.ifCond .eq 35, 3) := by decide +kernel
theorem dX2_tell_15 : decode cX2_tell 15 = .ok (.iload_n 3, 1) := by decide +kernel
theorem dX2_tell_16 : decode cX2_tell 16 = .ok (.iconst 0, 1) := by decide +kernel
theorem dX2_tell_17 : decode cX2_tell 17 = .ok (.bipush 59, 2) := by decide +kernel
theorem dX2_tell_19 : decode cX2_tell 19 = .ok (.invokestatic 17, 3) := by decide +kernel
theorem dX2_tell_22 : decode cX2_tell 22 = .ok (.ifCond .eq 25, 3) := by decide +kernel
theorem dX2_tell_25 : decode cX2_tell 25 = .ok (.iload 4, 2) := by decide +kernel
theorem dX2_tell_27 : decode cX2_tell 27 = .ok (.iconst 0, 1) := by decide +kernel
theorem dX2_tell_28 : decode cX2_tell 28 = .ok (.bipush 59, 2) := by decide +kernel
theorem dX2_tell_30 : decode cX2_tell 30 = .ok (.invokestatic 17, 3) := by decide +kernel
theorem dX2_tell_33 : decode cX2_tell 33 = .ok (.ifCond .eq 14, 3) := by decide +kernel
theorem dX2_tell_36 : decode cX2_tell 36 = .ok (.iload 5, 2) := by decide +kernel
theorem dX2_tell_38 : decode cX2_tell 38 = .ok (.iconst 0, 1) := by decide +kernel
theorem dX2_tell_39 : decode cX2_tell 39 = .ok (.ldc 42, 2) := by decide +kernel
theorem dX2_tell_41 : decode cX2_tell 41 = .ok (.invokestatic 17, 3) := by decide +kernel
theorem dX2_tell_44 : decode cX2_tell 44 = .ok (.ifCond .ne 7, 3) := by decide +kernel
theorem dX2_tell_47 : decode cX2_tell 47 = .ok (.iconst 1, 1) := by decide +kernel
theorem dX2_tell_48 : decode cX2_tell 48 = .ok (.goto 4, 3) := by decide +kernel
theorem dX2_tell_51 : decode cX2_tell 51 = .ok (.iconst 0, 1) := by decide +kernel
theorem dX2_tell_52 : decode cX2_tell 52 = .ok (.invokevirtual 43, 3) := by decide +kernel
theorem dX2_tell_55 : decode cX2_tell 55 = .ok (.ifCond .eq 5, 3) := by decide +kernel
theorem dX2_tell_58 : decode cX2_tell 58 = .ok (.iconst 0, 1) := by decide +kernel
theorem dX2_tell_59 : decode cX2_tell 59 = .ok (.ireturn, 1) := by decide +kernel
theorem dX2_tell_60 : decode cX2_tell 60 = .ok (.aload_n 0, 1) := by decide +kernel
theorem dX2_tell_61 : decode cX2_tell 61 = .ok (.iload_n 1, 1) := by decide +kernel
theorem dX2_tell_62 : decode cX2_tell 62 = .ok (.iload_n 2, 1) := by decide +kernel
theorem dX2_tell_63 : decode cX2_tell 63 = .ok (.bipush 60, 2) := by decide +kernel
theorem dX2_tell_65 : decode cX2_tell 65 = .ok (.imul, 1) := by decide +kernel
theorem dX2_tell_66 : decode cX2_tell 66 = .ok (.iload_n 3, 1) := by decide +kernel
theorem dX2_tell_67 : decode cX2_tell 67 = .ok (.iadd, 1) := by decide +kernel
theorem dX2_tell_68 : decode cX2_tell 68 = .ok (.bipush 60, 2) := by decide +kernel
theorem dX2_tell_70 : decode cX2_tell 70 = .ok (.imul, 1) := by decide +kernel
theorem dX2_tell_71 : decode cX2_tell 71 = .ok (.iload 4, 2) := by decide +kernel
theorem dX2_tell_73 : decode cX2_tell 73 = .ok (.iadd, 1) := by decide +kernel
theorem dX2_tell_74 : decode cX2_tell 74 = .ok (.i2l, 1) := by decide +kernel
theorem dX2_tell_75 : decode cX2_tell 75 = .ok (.ldc2_w 29, 3) := by decide +kernel
theorem dX2_tell_78 : decode cX2_tell 78 = .ok (.lmul, 1) := by decide +kernel
theorem dX2_tell_79 : decode cX2_tell 79 = .ok (.iload 5, 2) := by decide +kernel
theorem dX2_tell_81 : decode cX2_tell 81 = .ok (.i2l, 1) := by decide +kernel
theorem dX2_tell_82 : decode cX2_tell 82 = .ok (.ladd, 1) := by decide +kernel
theorem dX2_tell_83 : decode cX2_tell 83 = .ok (.invokevirtual 47, 3) := by decide +kernel
theorem dX2_tell_86 : decode cX2_tell 86 = .ok (.ireturn, 1) := by decide +kernel
theorem dX2_tellSecond_0 : decode cX2_tellSecond 0 = .ok (.aload_n 0, 1) := by decide +kernel
theorem dX2_tellSecond_1 : decode cX2_tellSecond 1 = .ok (.iload_n 1, 1) := by decide +kernel
theorem dX2_tellSecond_2 : decode cX2_tellSecond 2 = .ok (.invokestatic 38, 3) := by decide +kernel
theorem dX2_tellSecond_5 : decode cX2_tellSecond 5 = .ok (.iload_n 2, 1) := by decide +kernel
theorem dX2_tellSecond_6 : decode cX2_tellSecond 6 = .ok (.iconst 0, 1) := by decide +kernel
theorem dX2_tellSecond_7 : decode cX2_tellSecond 7 = .ok (.ldc 51, 2) := by decide +kernel
theorem dX2_tellSecond_9 : decode cX2_tellSecond 9 = .ok (.invokestatic 17, 3) := by decide +kernel
theorem dX2_tellSecond_12 : decode cX2_tellSecond 12 = .ok (.ifCond .ne 7, 3) := by decide +kernel
theorem dX2_tellSecond_15 : decode cX2_tellSecond 15 = .ok (.iconst 1, 1) := by decide +kernel
theorem dX2_tellSecond_16 : decode cX2_tellSecond 16 = .ok (.goto 4, 3) := by decide +kernel
theorem dX2_tellSecond_19 : decode cX2_tellSecond 19 = .ok (.iconst 0, 1) := by decide +kernel
theorem dX2_tellSecond_20 : decode cX2_tellSecond 20 = .ok (.invokevirtual 43, 3) := by decide +kernel
theorem dX2_tellSecond_23 : decode cX2_tellSecond 23 = .ok (.ifCond .eq 7, 3) := by decide +kernel
theorem dX2_tellSecond_26 : decode cX2_tellSecond 26 = .ok (.iconst 0, 1) := by decide +kernel
theorem dX2_tellSecond_27 : decode cX2_tellSecond 27 = .ok (.goto 18, 3) := by decide +kernel
theorem dX2_tellSecond_30 : decode cX2_tellSecond 30 = .ok (.aload_n 0, 1) := by decide +kernel
theorem dX2_tellSecond_31 : decode cX2_tellSecond 31 = .ok (.iload_n 1, 1) := by decide +kernel
theorem dX2_tellSecond_32 : decode cX2_tellSecond 32 = .ok (.iload_n 2, 1) := by decide +kernel
theorem dX2_tellSecond_33 : decode cX2_tellSecond 33 = .ok (.i2l, 1) := by decide +kernel
theorem dX2_tellSecond_34 : decode cX2_tellSecond 34 = .ok (.ldc2_w 29, 3) := by decide +kernel
theorem dX2_tellSecond_37 : decode cX2_tellSecond 37 = .ok (.lmul, 1) := by decide +kernel
theorem dX2_tellSecond_38 : decode cX2_tellSecond 38 = .ok (.invokevirtual 47, 3) := by decide +kernel
theorem dX2_tellSecond_41 : decode cX2_tellSecond 41 = .ok (.sipush 3600, 3) := by decide +kernel
theorem dX2_tellSecond_44 : decode cX2_tellSecond 44 = .ok (.idiv, 1) := by decide +kernel
theorem dX2_tellSecond_45 : decode cX2_tellSecond 45 = .ok (.ireturn, 1) := by decide +kernel
theorem dX2_tellNumber_0 : decode cX2_tellNumber 0 = .ok (.aload_n 0, 1) := by decide +kernel
theorem dX2_tellNumber_1 : decode cX2_tellNumber 1 = .ok (.iload_n 1, 1) := by decide +kernel
theorem dX2_tellNumber_2 : decode cX2_tellNumber 2 = .ok (.invokestatic 38, 3) := by decide +kernel
theorem dX2_tellNumber_5 : decode cX2_tellNumber 5 = .ok (.iload_n 2, 1) := by decide +kernel
theorem dX2_tellNumber_6 : decode cX2_tellNumber 6 = .ok (.iconst 0, 1) := by decide +kernel
theorem dX2_tellNumber_7 : decode cX2_tellNumber 7 = .ok (.ldc 51, 2) := by decide +kernel
theorem dX2_tellNumber_9 : decode cX2_tellNumber 9 = .ok (.invokestatic 17, 3) := by decide +kernel
theorem dX2_tellNumber_12 : decode cX2_tellNumber 12 = .ok (.ifCond .eq 13, 3) := by decide +kernel
theorem dX2_tellNumber_15 : decode cX2_tellNumber 15 = .ok (.iload_n 3, 1) := by decide +kernel
theorem dX2_tellNumber_16 : decode cX2_tellNumber 16 = .ok (.iconst 0, 1) := by decide +kernel
theorem dX2_tellNumber_17 : decode cX2_tellNumber 17 = .ok (.ldc 42, 2) := by decide +kernel
theorem dX2_tellNumber_19 : decode cX2_tellNumber 19 = .ok (.invokestatic 17, 3) := by decide +kernel
theorem dX2_tellNumber_22 : decode cX2_tellNumber 22 = .ok (.ifCond .ne 7, 3) := by decide +kernel
theorem dX2_tellNumber_25 : decode cX2_tellNumber 25 = .ok (.iconst 1, 1) := by decide +kernel
theorem dX2_tellNumber_26 : decode cX2_tellNumber 26 = .ok (.goto 4, 3) := by decide +kernel
theorem dX2_tellNumber_29 : decode cX2_tellNumber 29 = .ok (.iconst 0, 1) := by decide +kernel
theorem dX2_tellNumber_30 : decode cX2_tellNumber 30 = .ok (.invokevirtual 43, 3) := by decide +kernel
theorem dX2_tellNumber_33 : decode cX2_tellNumber 33 = .ok (.ifCond .eq 7, 3) := by decide +kernel
theorem dX2_tellNumber_36 : decode cX2_tellNumber 36 = .ok (.iconst 0, 1) := by decide +kernel
theorem dX2_tellNumber_37 : decode cX2_tellNumber 37 = .ok (.goto 21, 3) := by decide +kernel
theorem dX2_tellNumber_40 : decode cX2_tellNumber 40 = .ok (.aload_n 0, 1) := by decide +kernel
theorem dX2_tellNumber_41 : decode cX2_tellNumber 41 = .ok (.iload_n 1, 1) := by decide +kernel
theorem dX2_tellNumber_42 : decode cX2_tellNumber 42 = .ok (.iload_n 2, 1) := by decide +kernel
theorem dX2_tellNumber_43 : decode cX2_tellNumber 43 = .ok (.i2l, 1) := by decide +kernel
theorem dX2_tellNumber_44 : decode cX2_tellNumber 44 = .ok (.ldc2_w 29, 3) := by decide +kernel
theorem dX2_tellNumber_47 : decode cX2_tellNumber 47 = .ok (.lmul, 1) := by decide +kernel
theorem dX2_tellNumber_48 : decode cX2_tellNumber 48 = .ok (.iload_n 3, 1) := by decide +kernel
theorem dX2_tellNumber_49 : decode cX2_tellNumber 49 = .ok (.i2l, 1) := by decide +kernel
theorem dX2_tellNumber_50 : decode cX2_tellNumber 50 = .ok (.ladd, 1) := by decide +kernel
theorem dX2_tellNumber_51 : decode cX2_tellNumber 51 = .ok (.invokevirtual 47, 3) := by decide +kernel
theorem dX2_tellNumber_54 : decode cX2_tellNumber 54 = .ok (.sipush 3600, 3) := by decide +kernel
theorem dX2_tellNumber_57 : decode cX2_tellNumber 57 = .ok (.idiv, 1) := by decide +kernel
theorem dX2_tellNumber_58 : decode cX2_tellNumber 58 = .ok (.ireturn, 1) := by decide +kernel
theorem dX2_tellKnown_0 : decode cX2_tellKnown 0 = .ok (.aload_n 0, 1) := by decide +kernel
theorem dX2_tellKnown_1 : decode cX2_tellKnown 1 = .ok (.iload_n 1, 1) := by decide +kernel
theorem dX2_tellKnown_2 : decode cX2_tellKnown 2 = .ok (.invokestatic 38, 3) := by decide +kernel
theorem dX2_tellKnown_5 : decode cX2_tellKnown 5 = .ok (.iload_n 2, 1) := by decide +kernel
theorem dX2_tellKnown_6 : decode cX2_tellKnown 6 = .ok (.iconst 0, 1) := by decide +kernel
theorem dX2_tellKnown_7 : decode cX2_tellKnown 7 = .ok (.iconst 2, 1) := by decide +kernel
theorem dX2_tellKnown_8 : decode cX2_tellKnown 8 = .ok (.invokestatic 17, 3) := by decide +kernel
theorem dX2_tellKnown_11 : decode cX2_tellKnown 11 = .ok (.ifCond .ne 7, 3) := by decide +kernel
theorem dX2_tellKnown_14 : decode cX2_tellKnown 14 = .ok (.iconst 1, 1) := by decide +kernel
theorem dX2_tellKnown_15 : decode cX2_tellKnown 15 = .ok (.goto 4, 3) := by decide +kernel
theorem dX2_tellKnown_18 : decode cX2_tellKnown 18 = .ok (.iconst 0, 1) := by decide +kernel
theorem dX2_tellKnown_19 : decode cX2_tellKnown 19 = .ok (.invokevirtual 43, 3) := by decide +kernel
theorem dX2_tellKnown_22 : decode cX2_tellKnown 22 = .ok (.ifCond .eq 7, 3) := by decide +kernel
theorem dX2_tellKnown_25 : decode cX2_tellKnown 25 = .ok (.iconst 0, 1) := by decide +kernel
theorem dX2_tellKnown_26 : decode cX2_tellKnown 26 = .ok (.goto 30, 3) := by decide +kernel
theorem dX2_tellKnown_29 : decode cX2_tellKnown 29 = .ok (.aload_n 0, 1) := by decide +kernel
theorem dX2_tellKnown_30 : decode cX2_tellKnown 30 = .ok (.iload_n 1, 1) := by decide +kernel
theorem dX2_tellKnown_31 : decode cX2_tellKnown 31 = .ok (.iload_n 2, 1) := by decide +kernel
theorem dX2_tellKnown_32 : decode cX2_tellKnown 32 = .ok (.ifCond .ne 7, 3) := by decide +kernel
theorem dX2_tellKnown_35 : decode cX2_tellKnown 35 = .ok (.lconst 0, 1) := by decide +kernel
theorem dX2_tellKnown_36 : decode cX2_tellKnown 36 = .ok (.goto 17, 3) := by decide +kernel
theorem dX2_tellKnown_39 : decode cX2_tellKnown 39 = .ok (.iload_n 2, 1) := by decide +kernel
theorem dX2_tellKnown_40 : decode cX2_tellKnown 40 = .ok (.iconst 1, 1) := by decide +kernel
theorem dX2_tellKnown_41 : decode cX2_tellKnown 41 = .ok (.if_icmp .ne 9, 3) := by decide +kernel
theorem dX2_tellKnown_44 : decode cX2_tellKnown 44 = .ok (.ldc2_w 52, 3) := by decide +kernel
theorem dX2_tellKnown_47 : decode cX2_tellKnown 47 = .ok (.goto 6, 3) := by decide +kernel
theorem dX2_tellKnown_50 : decode cX2_tellKnown 50 = .ok (.ldc2_w 54, 3) := by decide +kernel
theorem dX2_tellKnown_53 : decode cX2_tellKnown 53 = .ok (.invokevirtual 47, 3) := by decide +kernel
theorem dX2_tellKnown_56 : decode cX2_tellKnown 56 = .ok (.ireturn, 1) := by decide +kernel
theorem dX2_take_0 : decode cX2_take 0 = .ok (.aload_n 0, 1) := by decide +kernel
theorem dX2_take_1 : decode cX2_take 1 = .ok (.iload_n 1, 1) := by decide +kernel
theorem dX2_take_2 : decode cX2_take 2 = .ok (.invokestatic 38, 3) := by decide +kernel
theorem dX2_take_5 : decode cX2_take 5 = .ok (.ifCond .ne 10, 3) := by decide +kernel
theorem dX2_take_8 : decode cX2_take 8 = .ok (.iload_n 2, 1) := by decide +kernel
theorem dX2_take_9 : decode cX2_take 9 = .ok (.invokestatic 38, 3) := by decide +kernel
theorem dX2_take_12 : decode cX2_take 12 = .ok (.ifCond .eq 7, 3) := by decide +kernel
theorem dX2_take_15 : decode cX2_take 15 = .ok (.iconst 1, 1) := by decide +kernel
theorem dX2_take_16 : decode cX2_take 16 = .ok (.goto 4, 3) := by decide +kernel
theorem dX2_take_19 : decode cX2_take 19 = .ok (.iconst 0, 1) := by decide +kernel
theorem dX2_take_20 : decode cX2_take 20 = .ok (.iconst 0, 1) := by decide +kernel
theorem dX2_take_21 : decode cX2_take 21 = .ok (.invokevirtual 43, 3) := by decide +kernel
theorem dX2_take_24 : decode cX2_take 24 = .ok (.ifCond .eq 5, 3) := by decide +kernel
theorem dX2_take_27 : decode cX2_take 27 = .ok (.iconst 0, 1) := by decide +kernel
theorem dX2_take_28 : decode cX2_take 28 = .ok (.ireturn, 1) := by decide +kernel
theorem dX2_take_29 : decode cX2_take 29 = .ok (.aload_n 0, 1) := by decide +kernel
theorem dX2_take_30 : decode cX2_take 30 = .ok (.getfield 9, 3) := by decide +kernel
theorem dX2_take_33 : decode cX2_take 33 = .ok (.iload_n 1, 1) := by decide +kernel
theorem dX2_take_34 : decode cX2_take 34 = .ok (.laload, 1) := by decide +kernel
theorem dX2_take_35 : decode cX2_take 35 = .ok (.aload_n 0, 1) := by decide +kernel
theorem dX2_take_36 : decode cX2_take 36 = .ok (.getfield 9, 3) := by decide +kernel
theorem dX2_take_39 : decode cX2_take 39 = .ok (.iload_n 2, 1) := by decide +kernel
theorem dX2_take_40 : decode cX2_take 40 = .ok (.laload, 1) := by decide +kernel
theorem dX2_take_41 : decode cX2_take 41 = .ok (.lcmp, 1) := by decide +kernel
theorem dX2_take_42 : decode cX2_take 42 = .ok (.ifCond .eq 7, 3) := by decide +kernel
theorem dX2_take_45 : decode cX2_take 45 = .ok (.iconst 1, 1) := by decide +kernel
theorem dX2_take_46 : decode cX2_take 46 = .ok (.goto 4, 3) := by decide +kernel
theorem dX2_take_49 : decode cX2_take 49 = .ok (.iconst 0, 1) := by decide +kernel
theorem dX2_take_50 : decode cX2_take 50 = .ok (.istore_n 3, 1) := by decide +kernel
theorem dX2_take_51 : decode cX2_take 51 = .ok (.aload_n 0, 1) := by decide +kernel
theorem dX2_take_52 : decode cX2_take 52 = .ok (.iload_n 1, 1) := by decide +kernel
theorem dX2_take_53 : decode cX2_take 53 = .ok (.aload_n 0, 1) := by decide +kernel
theorem dX2_take_54 : decode cX2_take 54 = .ok (.getfield 9, 3) := by decide +kernel
theorem dX2_take_57 : decode cX2_take 57 = .ok (.iload_n 2, 1) := by decide +kernel
theorem dX2_take_58 : decode cX2_take 58 = .ok (.laload, 1) := by decide +kernel
theorem dX2_take_59 : decode cX2_take 59 = .ok (.invokevirtual 47, 3) := by decide +kernel
theorem dX2_take_62 : decode cX2_take 62 = .ok (.pop, 1) := by decide +kernel
theorem dX2_take_63 : decode cX2_take 63 = .ok (.iload_n 3, 1) := by decide +kernel
theorem dX2_take_64 : decode cX2_take 64 = .ok (.ifCond .eq 7, 3) := by decide +kernel
theorem dX2_take_67 : decode cX2_take 67 = .ok (.iconst 1, 1) := by decide +kernel
theorem dX2_take_68 : decode cX2_take 68 = .ok (.goto 4, 3) := by decide +kernel
theorem dX2_take_71 : decode cX2_take 71 = .ok (.iconst 0, 1) := by decide +kernel
theorem dX2_take_72 : decode cX2_take 72 = .ok (.ireturn, 1) := by decide +kernel
theorem dX2_with_0 : decode cX2_with 0 = .ok (.iload_n 2, 1) := by decide +kernel
theorem dX2_with_1 : decode cX2_with 1 = .ok (.ifCond .ne 8, 3) := by decide +kernel
theorem dX2_with_4 : decode cX2_with 4 = .ok (.bipush 23, 2) := by decide +kernel
theorem dX2_with_6 : decode cX2_with 6 = .ok (.goto 15, 3) := by decide +kernel
theorem dX2_with_9 : decode cX2_with 9 = .ok (.iload_n 2, 1) := by decide +kernel
theorem dX2_with_10 : decode cX2_with 10 = .ok (.iconst 3, 1) := by decide +kernel
theorem dX2_with_11 : decode cX2_with 11 = .ok (.if_icmp .ne 8, 3) := by decide +kernel
theorem dX2_with_14 : decode cX2_with 14 = .ok (.ldc 42, 2) := by decide +kernel
theorem dX2_with_16 : decode cX2_with 16 = .ok (.goto 5, 3) := by decide +kernel
theorem dX2_with_19 : decode cX2_with 19 = .ok (.bipush 59, 2) := by decide +kernel
theorem dX2_with_21 : decode cX2_with 21 = .ok (.istore 4, 2) := by decide +kernel
theorem dX2_with_23 : decode cX2_with 23 = .ok (.aload_n 0, 1) := by decide +kernel
theorem dX2_with_24 : decode cX2_with 24 = .ok (.iload_n 1, 1) := by decide +kernel
theorem dX2_with_25 : decode cX2_with 25 = .ok (.invokestatic 38, 3) := by decide +kernel
theorem dX2_with_28 : decode cX2_with 28 = .ok (.iload_n 2, 1) := by decide +kernel
theorem dX2_with_29 : decode cX2_with 29 = .ok (.iconst 0, 1) := by decide +kernel
theorem dX2_with_30 : decode cX2_with 30 = .ok (.iconst 3, 1) := by decide +kernel
theorem dX2_with_31 : decode cX2_with 31 = .ok (.invokestatic 17, 3) := by decide +kernel
theorem dX2_with_34 : decode cX2_with 34 = .ok (.ifCond .eq 13, 3) := by decide +kernel
theorem dX2_with_37 : decode cX2_with 37 = .ok (.iload_n 3, 1) := by decide +kernel
theorem dX2_with_38 : decode cX2_with 38 = .ok (.iconst 0, 1) := by decide +kernel
theorem dX2_with_39 : decode cX2_with 39 = .ok (.iload 4, 2) := by decide +kernel
theorem dX2_with_41 : decode cX2_with 41 = .ok (.invokestatic 17, 3) := by decide +kernel
theorem dX2_with_44 : decode cX2_with 44 = .ok (.ifCond .ne 7, 3) := by decide +kernel
theorem dX2_with_47 : decode cX2_with 47 = .ok (.iconst 1, 1) := by decide +kernel
theorem dX2_with_48 : decode cX2_with 48 = .ok (.goto 4, 3) := by decide +kernel
theorem dX2_with_51 : decode cX2_with 51 = .ok (.iconst 0, 1) := by decide +kernel
theorem dX2_with_52 : decode cX2_with 52 = .ok (.invokevirtual 43, 3) := by decide +kernel
theorem dX2_with_55 : decode cX2_with 55 = .ok (.ifCond .eq 5, 3) := by decide +kernel
theorem dX2_with_58 : decode cX2_with 58 = .ok (.iconst 0, 1) := by decide +kernel
theorem dX2_with_59 : decode cX2_with 59 = .ok (.ireturn, 1) := by decide +kernel
theorem dX2_with_60 : decode cX2_with 60 = .ok (.aload_n 0, 1) := by decide +kernel
theorem dX2_with_61 : decode cX2_with 61 = .ok (.getfield 9, 3) := by decide +kernel
theorem dX2_with_64 : decode cX2_with 64 = .ok (.iload_n 1, 1) := by decide +kernel
theorem dX2_with_65 : decode cX2_with 65 = .ok (.laload, 1) := by decide +kernel
theorem dX2_with_66 : decode cX2_with 66 = .ok (.iload_n 2, 1) := by decide +kernel
theorem dX2_with_67 : decode cX2_with 67 = .ok (.invokestatic 56, 3) := by decide +kernel
theorem dX2_with_70 : decode cX2_with 70 = .ok (.istore 5, 2) := by decide +kernel
theorem dX2_with_72 : decode cX2_with 72 = .ok (.iload_n 2, 1) := by decide +kernel
theorem dX2_with_73 : decode cX2_with 73 = .ok (.ifCond .ne 9, 3) := by decide +kernel
theorem dX2_with_76 : decode cX2_with 76 = .ok (.ldc2_w 60, 3) := by decide +kernel
theorem dX2_with_79 : decode cX2_with 79 = .ok (.goto 26, 3) := by decide +kernel
theorem dX2_with_82 : decode cX2_with 82 = .ok (.iload_n 2, 1) := by decide +kernel
theorem dX2_with_83 : decode cX2_with 83 = .ok (.iconst 1, 1) := by decide +kernel
theorem dX2_with_84 : decode cX2_with 84 = .ok (.if_icmp .ne 9, 3) := by decide +kernel
theorem dX2_with_87 : decode cX2_with 87 = .ok (.ldc2_w 62, 3) := by decide +kernel
theorem dX2_with_90 : decode cX2_with 90 = .ok (.goto 15, 3) := by decide +kernel
theorem dX2_with_93 : decode cX2_with 93 = .ok (.iload_n 2, 1) := by decide +kernel
theorem dX2_with_94 : decode cX2_with 94 = .ok (.iconst 2, 1) := by decide +kernel
theorem dX2_with_95 : decode cX2_with 95 = .ok (.if_icmp .ne 9, 3) := by decide +kernel
theorem dX2_with_98 : decode cX2_with 98 = .ok (.ldc2_w 29, 3) := by decide +kernel
theorem dX2_with_101 : decode cX2_with 101 = .ok (.goto 4, 3) := by decide +kernel
theorem dX2_with_104 : decode cX2_with 104 = .ok (.lconst 1, 1) := by decide +kernel
theorem dX2_with_105 : decode cX2_with 105 = .ok (.lstore 6, 2) := by decide +kernel
theorem dX2_with_107 : decode cX2_with 107 = .ok (.aload_n 0, 1) := by decide +kernel
theorem dX2_with_108 : decode cX2_with 108 = .ok (.iload_n 1, 1) := by decide +kernel
theorem dX2_with_109 : decode cX2_with 109 = .ok (.aload_n 0, 1) := by decide +kernel
theorem dX2_with_110 : decode cX2_with 110 = .ok (.getfield 9, 3) := by decide +kernel
theorem dX2_with_113 : decode cX2_with 113 = .ok (.iload_n 1, 1) := by decide +kernel
theorem dX2_with_114 : decode cX2_with 114 = .ok (.laload, 1) := by decide +kernel
theorem dX2_with_115 : decode cX2_with 115 = .ok (.iload_n 3, 1) := by decide +kernel
theorem dX2_with_116 : decode cX2_with 116 = .ok (.iload 5, 2) := by decide +kernel
theorem dX2_with_118 : decode cX2_with 118 = .ok (.isub, 1) := by decide +kernel
theorem dX2_with_119 : decode cX2_with 119 = .ok (.i2l, 1) := by decide +kernel
theorem dX2_with_120 : decode cX2_with 120 = .ok (.lload 6, 2) := by decide +kernel
theorem dX2_with_122 : decode cX2_with 122 = .ok (.lmul, 1) := by decide +kernel
theorem dX2_with_123 : decode cX2_with 123 = .ok (.ladd, 1) := by decide +kernel
theorem dX2_with_124 : decode cX2_with 124 = .ok (.invokevirtual 47, 3) := by decide +kernel
theorem dX2_with_127 : decode cX2_with 127 = .ok (.pop, 1) := by decide +kernel
theorem dX2_with_128 : decode cX2_with 128 = .ok (.iload 5, 2) := by decide +kernel
theorem dX2_with_130 : decode cX2_with 130 = .ok (.ireturn, 1) := by decide +kernel
theorem dX2_isNoStep_0 : decode cX2_isNoStep 0 = .ok (.iload_n 0, 1) := by decide +kernel
theorem dX2_isNoStep_1 : decode cX2_isNoStep 1 = .ok (.ifCond .eq 16, 3) := by decide +kernel
theorem dX2_isNoStep_4 : decode cX2_isNoStep 4 = .ok (.iload_n 0, 1) := by decide +kernel
theorem dX2_isNoStep_5 : decode cX2_isNoStep 5 = .ok (.iconst 3, 1) := by decide +kernel
theorem dX2_isNoStep_6 : decode cX2_isNoStep 6 = .ok (.iconst 5, 1) := by decide +kernel
theorem dX2_isNoStep_7 : decode cX2_isNoStep 7 = .ok (.invokestatic 17, 3) := by decide +kernel
theorem dX2_isNoStep_10 : decode cX2_isNoStep 10 = .ok (.ifCond .ne 7, 3) := by decide +kernel
theorem dX2_isNoStep_13 : decode cX2_isNoStep 13 = .ok (.iconst 1, 1) := by decide +kernel
theorem dX2_isNoStep_14 : decode cX2_isNoStep 14 = .ok (.goto 4, 3) := by decide +kernel
theorem dX2_isNoStep_17 : decode cX2_isNoStep 17 = .ok (.iconst 0, 1) := by decide +kernel
theorem dX2_isNoStep_18 : decode cX2_isNoStep 18 = .ok (.ireturn, 1) := by decide +kernel
theorem dX2_on_0 : decode cX2_on 0 = .ok (.ldc2_w 64, 3) := by decide +kernel
theorem dX2_on_3 : decode cX2_on 3 = .ok (.iload_n 2, 1) := by decide +kernel
theorem dX2_on_4 : decode cX2_on 4 = .ok (.invokestatic 66, 3) := by decide +kernel
theorem dX2_on_7 : decode cX2_on 7 = .ok (.ldiv, 1) := by decide +kernel
theorem dX2_on_8 : decode cX2_on 8 = .ok (.lstore 5, 2) := by decide +kernel
theorem dX2_on_10 : decode cX2_on 10 = .ok (.lload_n 0, 1) := by decide +kernel
theorem dX2_on_11 : decode cX2_on 11 = .ok (.lload_n 3, 1) := by decide +kernel
theorem dX2_on_12 : decode cX2_on 12 = .ok (.lload 5, 2) := by decide +kernel
theorem dX2_on_14 : decode cX2_on 14 = .ok (.lrem, 1) := by decide +kernel
theorem dX2_on_15 : decode cX2_on 15 = .ok (.iload_n 2, 1) := by decide +kernel
theorem dX2_on_16 : decode cX2_on 16 = .ok (.invokestatic 66, 3) := by decide +kernel
theorem dX2_on_19 : decode cX2_on 19 = .ok (.lmul, 1) := by decide +kernel
theorem dX2_on_20 : decode cX2_on 20 = .ok (.ladd, 1) := by decide +kernel
theorem dX2_on_21 : decode cX2_on 21 = .ok (.lstore 7, 2) := by decide +kernel
theorem dX2_on_23 : decode cX2_on 23 = .ok (.lload 7, 2) := by decide +kernel
theorem dX2_on_25 : decode cX2_on 25 = .ok (.lconst 0, 1) := by decide +kernel
theorem dX2_on_26 : decode cX2_on 26 = .ok (.lcmp, 1) := by decide +kernel
theorem dX2_on_27 : decode cX2_on 27 = .ok (.ifCond .ge 12, 3) := by decide +kernel
theorem dX2_on_30 : decode cX2_on 30 = .ok (.lload 7, 2) := by decide +kernel
theorem dX2_on_32 : decode cX2_on 32 = .ok (.ldc2_w 64, 3) := by decide +kernel
theorem dX2_on_35 : decode cX2_on 35 = .ok (.ladd, 1) := by decide +kernel
theorem dX2_on_36 : decode cX2_on 36 = .ok (.goto 23, 3) := by decide +kernel
theorem dX2_on_39 : decode cX2_on 39 = .ok (.lload 7, 2) := by decide +kernel
theorem dX2_on_41 : decode cX2_on 41 = .ok (.ldc2_w 64, 3) := by decide +kernel
theorem dX2_on_44 : decode cX2_on 44 = .ok (.lcmp, 1) := by decide +kernel
theorem dX2_on_45 : decode cX2_on 45 = .ok (.ifCond .lt 12, 3) := by decide +kernel
theorem dX2_on_48 : decode cX2_on 48 = .ok (.lload 7, 2) := by decide +kernel
theorem dX2_on_50 : decode cX2_on 50 = .ok (.ldc2_w 64, 3) := by decide +kernel
theorem dX2_on_53 : decode cX2_on 53 = .ok (.lsub, 1) := by decide +kernel
theorem dX2_on_54 : decode cX2_on 54 = .ok (.goto 5, 3) := by decide +kernel
theorem dX2_on_57 : decode cX2_on 57 = .ok (.lload 7, 2) := by decide +kernel
theorem dX2_on_59 : decode cX2_on 59 = .ok (.lreturn, 1) := by decide +kernel
theorem dX2_plus_0 : decode cX2_plus 0 = .ok (.aload_n 0, 1) := by decide +kernel
theorem dX2_plus_1 : decode cX2_plus 1 = .ok (.iload_n 1, 1) := by decide +kernel
theorem dX2_plus_2 : decode cX2_plus 2 = .ok (.invokestatic 38, 3) := by decide +kernel
theorem dX2_plus_5 : decode cX2_plus 5 = .ok (.iload_n 2, 1) := by decide +kernel
theorem dX2_plus_6 : decode cX2_plus 6 = .ok (.invokestatic 70, 3) := by decide +kernel
theorem dX2_plus_9 : decode cX2_plus 9 = .ok (.invokevirtual 43, 3) := by decide +kernel
theorem dX2_plus_12 : decode cX2_plus 12 = .ok (.ifCond .eq 7, 3) := by decide +kernel
theorem dX2_plus_15 : decode cX2_plus 15 = .ok (.iconst 0, 1) := by decide +kernel
theorem dX2_plus_16 : decode cX2_plus 16 = .ok (.goto 24, 3) := by decide +kernel
theorem dX2_plus_19 : decode cX2_plus 19 = .ok (.aload_n 0, 1) := by decide +kernel
theorem dX2_plus_20 : decode cX2_plus 20 = .ok (.iload_n 1, 1) := by decide +kernel
theorem dX2_plus_21 : decode cX2_plus 21 = .ok (.aload_n 0, 1) := by decide +kernel
theorem dX2_plus_22 : decode cX2_plus 22 = .ok (.getfield 9, 3) := by decide +kernel
theorem dX2_plus_25 : decode cX2_plus 25 = .ok (.iload_n 1, 1) := by decide +kernel
theorem dX2_plus_26 : decode cX2_plus 26 = .ok (.laload, 1) := by decide +kernel
theorem dX2_plus_27 : decode cX2_plus 27 = .ok (.iload_n 2, 1) := by decide +kernel
theorem dX2_plus_28 : decode cX2_plus 28 = .ok (.iload_n 3, 1) := by decide +kernel
theorem dX2_plus_29 : decode cX2_plus 29 = .ok (.i2l, 1) := by decide +kernel
theorem dX2_plus_30 : decode cX2_plus 30 = .ok (.iload 4, 2) := by decide +kernel
theorem dX2_plus_32 : decode cX2_plus 32 = .ok (.i2l, 1) := by decide +kernel
theorem dX2_plus_33 : decode cX2_plus 33 = .ok (.lmul, 1) := by decide +kernel
theorem dX2_plus_34 : decode cX2_plus 34 = .ok (.invokestatic 73, 3) := by decide +kernel
theorem dX2_plus_37 : decode cX2_plus 37 = .ok (.invokevirtual 47, 3) := by decide +kernel
theorem dX2_plus_40 : decode cX2_plus 40 = .ok (.ireturn, 1) := by decide +kernel
theorem dX2_minus_0 : decode cX2_minus 0 = .ok (.aload_n 0, 1) := by decide +kernel
theorem dX2_minus_1 : decode cX2_minus 1 = .ok (.iload_n 1, 1) := by decide +kernel
theorem dX2_minus_2 : decode cX2_minus 2 = .ok (.invokestatic 38, 3) := by decide +kernel
theorem dX2_minus_5 : decode cX2_minus 5 = .ok (.iload_n 2, 1) := by decide +kernel
theorem dX2_minus_6 : decode cX2_minus 6 = .ok (.invokestatic 70, 3) := by decide +kernel
theorem dX2_minus_9 : decode cX2_minus 9 = .ok (.invokevirtual 43, 3) := by decide +kernel
theorem dX2_minus_12 : decode cX2_minus 12 = .ok (.ifCond .eq 7, 3) := by decide +kernel
theorem dX2_minus_15 : decode cX2_minus 15 = .ok (.iconst 0, 1) := by decide +kernel
theorem dX2_minus_16 : decode cX2_minus 16 = .ok (.goto 25, 3) := by decide +kernel
theorem dX2_minus_19 : decode cX2_minus 19 = .ok (.aload_n 0, 1) := by decide +kernel
theorem dX2_minus_20 : decode cX2_minus 20 = .ok (.iload_n 1, 1) := by decide +kernel
theorem dX2_minus_21 : decode cX2_minus 21 = .ok (.aload_n 0, 1) := by decide +kernel
theorem dX2_minus_22 : decode cX2_minus 22 = .ok (.getfield 9, 3) := by decide +kernel
theorem dX2_minus_25 : decode cX2_minus 25 = .ok (.iload_n 1, 1) := by decide +kernel
theorem dX2_minus_26 : decode cX2_minus 26 = .ok (.laload, 1) := by decide +kernel
theorem dX2_minus_27 : decode cX2_minus 27 = .ok (.iload_n 2, 1) := by decide +kernel
theorem dX2_minus_28 : decode cX2_minus 28 = .ok (.iload_n 3, 1) := by decide +kernel
theorem dX2_minus_29 : decode cX2_minus 29 = .ok (.i2l, 1) := by decide +kernel
theorem dX2_minus_30 : decode cX2_minus 30 = .ok (.iload 4, 2) := by decide +kernel
theorem dX2_minus_32 : decode cX2_minus 32 = .ok (.i2l, 1) := by decide +kernel
theorem dX2_minus_33 : decode cX2_minus 33 = .ok (.lmul, 1) := by decide +kernel
theorem dX2_minus_34 : decode cX2_minus 34 = .ok (.lneg, 1) := by decide +kernel
theorem dX2_minus_35 : decode cX2_minus 35 = .ok (.invokestatic 73, 3) := by decide +kernel
theorem dX2_minus_38 : decode cX2_minus 38 = .ok (.invokevirtual 47, 3) := by decide +kernel
theorem dX2_minus_41 : decode cX2_minus 41 = .ok (.ireturn, 1) := by decide +kernel
theorem dX2_walk_0 : decode cX2_walk 0 = .ok (.aload_n 0, 1) := by decide +kernel
theorem dX2_walk_1 : decode cX2_walk 1 = .ok (.iload_n 1, 1) := by decide +kernel
theorem dX2_walk_2 : decode cX2_walk 2 = .ok (.invokestatic 38, 3) := by decide +kernel
theorem dX2_walk_5 : decode cX2_walk 5 = .ok (.iload_n 2, 1) := by decide +kernel
theorem dX2_walk_6 : decode cX2_walk 6 = .ok (.invokestatic 70, 3) := by decide +kernel
theorem dX2_walk_9 : decode cX2_walk 9 = .ok (.ifCond .ne 14, 3) := by decide +kernel
theorem dX2_walk_12 : decode cX2_walk 12 = .ok (.iload 4, 2) := by decide +kernel
theorem dX2_walk_14 : decode cX2_walk 14 = .ok (.iconst 0, 1) := by decide +kernel
theorem dX2_walk_15 : decode cX2_walk 15 = .ok (.bipush 40, 2) := by decide +kernel
theorem dX2_walk_17 : decode cX2_walk 17 = .ok (.invokestatic 17, 3) := by decide +kernel
theorem dX2_walk_20 : decode cX2_walk 20 = .ok (.ifCond .ne 7, 3) := by decide +kernel
theorem dX2_walk_23 : decode cX2_walk 23 = .ok (.iconst 1, 1) := by decide +kernel
theorem dX2_walk_24 : decode cX2_walk 24 = .ok (.goto 4, 3) := by decide +kernel
theorem dX2_walk_27 : decode cX2_walk 27 = .ok (.iconst 0, 1) := by decide +kernel
theorem dX2_walk_28 : decode cX2_walk 28 = .ok (.invokevirtual 43, 3) := by decide +kernel
theorem dX2_walk_31 : decode cX2_walk 31 = .ok (.ifCond .eq 5, 3) := by decide +kernel
theorem dX2_walk_34 : decode cX2_walk 34 = .ok (.iconst 0, 1) := by decide +kernel
theorem dX2_walk_35 : decode cX2_walk 35 = .ok (.ireturn, 1) := by decide +kernel
theorem dX2_walk_36 : decode cX2_walk 36 = .ok (.iconst 0, 1) := by decide +kernel
theorem dX2_walk_37 : decode cX2_walk 37 = .ok (.istore 5, 2) := by decide +kernel
theorem dX2_walk_39 : decode cX2_walk 39 = .ok (.aload_n 0, 1) := by decide +kernel
theorem dX2_walk_40 : decode cX2_walk 40 = .ok (.getfield 9, 3) := by decide +kernel
theorem dX2_walk_43 : decode cX2_walk 43 = .ok (.iload_n 1, 1) := by decide +kernel
theorem dX2_walk_44 : decode cX2_walk 44 = .ok (.laload, 1) := by decide +kernel
theorem dX2_walk_45 : decode cX2_walk 45 = .ok (.lstore 6, 2) := by decide +kernel
theorem dX2_walk_47 : decode cX2_walk 47 = .ok (.iconst 0, 1) := by decide +kernel
theorem dX2_walk_48 : decode cX2_walk 48 = .ok (.istore 8, 2) := by decide +kernel
theorem dX2_walk_50 : decode cX2_walk 50 = .ok (.iload 8, 2) := by decide +kernel
theorem dX2_walk_52 : decode cX2_walk 52 = .ok (.iload 4, 2) := by decide +kernel
theorem dX2_walk_54 : decode cX2_walk 54 = .ok (.if_icmp .ge 41, 3) := by decide +kernel
theorem dX2_walk_57 : decode cX2_walk 57 = .ok (.lload 6, 2) := by decide +kernel
theorem dX2_walk_59 : decode cX2_walk 59 = .ok (.iload_n 2, 1) := by decide +kernel
theorem dX2_walk_60 : decode cX2_walk 60 = .ok (.iload_n 3, 1) := by decide +kernel
theorem dX2_walk_61 : decode cX2_walk 61 = .ok (.i2l, 1) := by decide +kernel
theorem dX2_walk_62 : decode cX2_walk 62 = .ok (.invokestatic 73, 3) := by decide +kernel
theorem dX2_walk_65 : decode cX2_walk 65 = .ok (.lstore 9, 2) := by decide +kernel
theorem dX2_walk_67 : decode cX2_walk 67 = .ok (.iload 5, 2) := by decide +kernel
theorem dX2_walk_69 : decode cX2_walk 69 = .ok (.lload 9, 2) := by decide +kernel
theorem dX2_walk_71 : decode cX2_walk 71 = .ok (.lload 6, 2) := by decide +kernel
theorem dX2_walk_73 : decode cX2_walk 73 = .ok (.lcmp, 1) := by decide +kernel
theorem dX2_walk_74 : decode cX2_walk 74 = .ok (.ifCond .ge 7, 3) := by decide +kernel
theorem dX2_walk_77 : decode cX2_walk 77 = .ok (.iconst 1, 1) := by decide +kernel
theorem dX2_walk_78 : decode cX2_walk 78 = .ok (.goto 4, 3) := by decide +kernel
theorem dX2_walk_81 : decode cX2_walk 81 = .ok (.iconst 0, 1) := by decide +kernel
theorem dX2_walk_82 : decode cX2_walk 82 = .ok (.iadd, 1) := by decide +kernel
theorem dX2_walk_83 : decode cX2_walk 83 = .ok (.istore 5, 2) := by decide +kernel
theorem dX2_walk_85 : decode cX2_walk 85 = .ok (.lload 9, 2) := by decide +kernel
theorem dX2_walk_87 : decode cX2_walk 87 = .ok (.lstore 6, 2) := by decide +kernel
theorem dX2_walk_89 : decode cX2_walk 89 = .ok (.iinc 8 1, 3) := by decide +kernel
theorem dX2_walk_92 : decode cX2_walk 92 = .ok (.goto (-42), 3) := by decide +kernel
theorem dX2_walk_95 : decode cX2_walk 95 = .ok (.aload_n 0, 1) := by decide +kernel
theorem dX2_walk_96 : decode cX2_walk 96 = .ok (.iload_n 1, 1) := by decide +kernel
theorem dX2_walk_97 : decode cX2_walk 97 = .ok (.lload 6, 2) := by decide +kernel
theorem dX2_walk_99 : decode cX2_walk 99 = .ok (.invokevirtual 47, 3) := by decide +kernel
theorem dX2_walk_102 : decode cX2_walk 102 = .ok (.pop, 1) := by decide +kernel
theorem dX2_walk_103 : decode cX2_walk 103 = .ok (.iload 5, 2) := by decide +kernel
theorem dX2_walk_105 : decode cX2_walk 105 = .ok (.ireturn, 1) := by decide +kernel
theorem dX2_cut_0 : decode cX2_cut 0 = .ok (.aload_n 0, 1) := by decide +kernel
theorem dX2_cut_1 : decode cX2_cut 1 = .ok (.iload_n 1, 1) := by decide +kernel
theorem dX2_cut_2 : decode cX2_cut 2 = .ok (.invokestatic 38, 3) := by decide +kernel
theorem dX2_cut_5 : decode cX2_cut 5 = .ok (.iload_n 2, 1) := by decide +kernel
theorem dX2_cut_6 : decode cX2_cut 6 = .ok (.iconst 0, 1) := by decide +kernel
theorem dX2_cut_7 : decode cX2_cut 7 = .ok (.bipush 7, 2) := by decide +kernel
theorem dX2_cut_9 : decode cX2_cut 9 = .ok (.invokestatic 17, 3) := by decide +kernel
theorem dX2_cut_12 : decode cX2_cut 12 = .ok (.ifCond .ne 7, 3) := by decide +kernel
theorem dX2_cut_15 : decode cX2_cut 15 = .ok (.iconst 1, 1) := by decide +kernel
theorem dX2_cut_16 : decode cX2_cut 16 = .ok (.goto 4, 3) := by decide +kernel
theorem dX2_cut_19 : decode cX2_cut 19 = .ok (.iconst 0, 1) := by decide +kernel
theorem dX2_cut_20 : decode cX2_cut 20 = .ok (.invokevirtual 43, 3) := by decide +kernel
theorem dX2_cut_23 : decode cX2_cut 23 = .ok (.ifCond .eq 7, 3) := by decide +kernel
theorem dX2_cut_26 : decode cX2_cut 26 = .ok (.iconst 0, 1) := by decide +kernel
theorem dX2_cut_27 : decode cX2_cut 27 = .ok (.goto 26, 3) := by decide +kernel
theorem dX2_cut_30 : decode cX2_cut 30 = .ok (.aload_n 0, 1) := by decide +kernel
theorem dX2_cut_31 : decode cX2_cut 31 = .ok (.iload_n 1, 1) := by decide +kernel
theorem dX2_cut_32 : decode cX2_cut 32 = .ok (.aload_n 0, 1) := by decide +kernel
theorem dX2_cut_33 : decode cX2_cut 33 = .ok (.getfield 9, 3) := by decide +kernel
theorem dX2_cut_36 : decode cX2_cut 36 = .ok (.iload_n 1, 1) := by decide +kernel
theorem dX2_cut_37 : decode cX2_cut 37 = .ok (.laload, 1) := by decide +kernel
theorem dX2_cut_38 : decode cX2_cut 38 = .ok (.aload_n 0, 1) := by decide +kernel
theorem dX2_cut_39 : decode cX2_cut 39 = .ok (.getfield 9, 3) := by decide +kernel
theorem dX2_cut_42 : decode cX2_cut 42 = .ok (.iload_n 1, 1) := by decide +kernel
theorem dX2_cut_43 : decode cX2_cut 43 = .ok (.laload, 1) := by decide +kernel
theorem dX2_cut_44 : decode cX2_cut 44 = .ok (.iload_n 2, 1) := by decide +kernel
theorem dX2_cut_45 : decode cX2_cut 45 = .ok (.invokestatic 66, 3) := by decide +kernel
theorem dX2_cut_48 : decode cX2_cut 48 = .ok (.lrem, 1) := by decide +kernel
theorem dX2_cut_49 : decode cX2_cut 49 = .ok (.lsub, 1) := by decide +kernel
theorem dX2_cut_50 : decode cX2_cut 50 = .ok (.invokevirtual 47, 3) := by decide +kernel
theorem dX2_cut_53 : decode cX2_cut 53 = .ok (.ireturn, 1) := by decide +kernel
theorem dX2_of_0 : decode cX2_of 0 = .ok (.aload_n 0, 1) := by decide +kernel
theorem dX2_of_1 : decode cX2_of 1 = .ok (.iload_n 1, 1) := by decide +kernel
theorem dX2_of_2 : decode cX2_of 2 = .ok (.invokestatic 38, 3) := by decide +kernel
theorem dX2_of_5 : decode cX2_of 5 = .ok (.iload_n 2, 1) := by decide +kernel
theorem dX2_of_6 : decode cX2_of 6 = .ok (.iconst 0, 1) := by decide +kernel
theorem dX2_of_7 : decode cX2_of 7 = .ok (.iconst 4, 1) := by decide +kernel
theorem dX2_of_8 : decode cX2_of 8 = .ok (.invokestatic 17, 3) := by decide +kernel
theorem dX2_of_11 : decode cX2_of 11 = .ok (.ifCond .ne 7, 3) := by decide +kernel
theorem dX2_of_14 : decode cX2_of 14 = .ok (.iconst 1, 1) := by decide +kernel
theorem dX2_of_15 : decode cX2_of 15 = .ok (.goto 4, 3) := by decide +kernel
theorem dX2_of_18 : decode cX2_of 18 = .ok (.iconst 0, 1) := by decide +kernel
theorem dX2_of_19 : decode cX2_of 19 = .ok (.invokevirtual 43, 3) := by decide +kernel
theorem dX2_of_22 : decode cX2_of 22 = .ok (.ifCond .eq 7, 3) := by decide +kernel
theorem dX2_of_25 : decode cX2_of 25 = .ok (.iconst 0, 1) := by decide +kernel
theorem dX2_of_26 : decode cX2_of 26 = .ok (.goto 13, 3) := by decide +kernel
theorem dX2_of_29 : decode cX2_of 29 = .ok (.aload_n 0, 1) := by decide +kernel
theorem dX2_of_30 : decode cX2_of 30 = .ok (.getfield 9, 3) := by decide +kernel
theorem dX2_of_33 : decode cX2_of 33 = .ok (.iload_n 1, 1) := by decide +kernel
theorem dX2_of_34 : decode cX2_of 34 = .ok (.laload, 1) := by decide +kernel
theorem dX2_of_35 : decode cX2_of 35 = .ok (.iload_n 2, 1) := by decide +kernel
theorem dX2_of_36 : decode cX2_of 36 = .ok (.invokestatic 56, 3) := by decide +kernel
theorem dX2_of_39 : decode cX2_of 39 = .ok (.ireturn, 1) := by decide +kernel
theorem dX2_number_0 : decode cX2_number 0 = .ok (.aload_n 0, 1) := by decide +kernel
theorem dX2_number_1 : decode cX2_number 1 = .ok (.iload_n 1, 1) := by decide +kernel
theorem dX2_number_2 : decode cX2_number 2 = .ok (.invokestatic 38, 3) := by decide +kernel
theorem dX2_number_5 : decode cX2_number 5 = .ok (.iconst 0, 1) := by decide +kernel
theorem dX2_number_6 : decode cX2_number 6 = .ok (.invokevirtual 43, 3) := by decide +kernel
theorem dX2_number_9 : decode cX2_number 9 = .ok (.ifCond .eq 8, 3) := by decide +kernel
theorem dX2_number_12 : decode cX2_number 12 = .ok (.ldc 77, 2) := by decide +kernel
theorem dX2_number_14 : decode cX2_number 14 = .ok (.goto 27, 3) := by decide +kernel
theorem dX2_number_17 : decode cX2_number 17 = .ok (.new 79, 3) := by decide +kernel
theorem dX2_number_20 : decode cX2_number 20 = .ok (.dup, 1) := by decide +kernel
theorem dX2_number_21 : decode cX2_number 21 = .ok (.invokespecial 81, 3) := by decide +kernel
theorem dX2_number_24 : decode cX2_number 24 = .ok (.ldc 77, 2) := by decide +kernel
theorem dX2_number_26 : decode cX2_number 26 = .ok (.invokevirtual 82, 3) := by decide +kernel
theorem dX2_number_29 : decode cX2_number 29 = .ok (.aload_n 0, 1) := by decide +kernel
theorem dX2_number_30 : decode cX2_number 30 = .ok (.getfield 9, 3) := by decide +kernel
theorem dX2_number_33 : decode cX2_number 33 = .ok (.iload_n 1, 1) := by decide +kernel
theorem dX2_number_34 : decode cX2_number 34 = .ok (.laload, 1) := by decide +kernel
theorem dX2_number_35 : decode cX2_number 35 = .ok (.invokevirtual 86, 3) := by decide +kernel
theorem dX2_number_38 : decode cX2_number 38 = .ok (.invokevirtual 89, 3) := by decide +kernel
theorem dX2_number_41 : decode cX2_number 41 = .ok (.areturn, 1) := by decide +kernel
theorem dX2_text_0 : decode cX2_text 0 = .ok (.aload_n 0, 1) := by decide +kernel
theorem dX2_text_1 : decode cX2_text 1 = .ok (.iload_n 1, 1) := by decide +kernel
theorem dX2_text_2 : decode cX2_text 2 = .ok (.invokestatic 38, 3) := by decide +kernel
theorem dX2_text_5 : decode cX2_text 5 = .ok (.iconst 0, 1) := by decide +kernel
theorem dX2_text_6 : decode cX2_text 6 = .ok (.invokevirtual 43, 3) := by decide +kernel
theorem dX2_text_9 : decode cX2_text 9 = .ok (.ifCond .eq 8, 3) := by decide +kernel
theorem dX2_text_12 : decode cX2_text 12 = .ok (.ldc 77, 2) := by decide +kernel
theorem dX2_text_14 : decode cX2_text 14 = .ok (.goto 80, 3) := by decide +kernel
theorem dX2_text_17 : decode cX2_text 17 = .ok (.new 79, 3) := by decide +kernel
theorem dX2_text_20 : decode cX2_text 20 = .ok (.dup, 1) := by decide +kernel
theorem dX2_text_21 : decode cX2_text 21 = .ok (.invokespecial 81, 3) := by decide +kernel
theorem dX2_text_24 : decode cX2_text 24 = .ok (.aload_n 0, 1) := by decide +kernel
theorem dX2_text_25 : decode cX2_text 25 = .ok (.getfield 9, 3) := by decide +kernel
theorem dX2_text_28 : decode cX2_text 28 = .ok (.iload_n 1, 1) := by decide +kernel
theorem dX2_text_29 : decode cX2_text 29 = .ok (.laload, 1) := by decide +kernel
theorem dX2_text_30 : decode cX2_text 30 = .ok (.iconst 0, 1) := by decide +kernel
theorem dX2_text_31 : decode cX2_text 31 = .ok (.invokestatic 56, 3) := by decide +kernel
theorem dX2_text_34 : decode cX2_text 34 = .ok (.invokevirtual 93, 3) := by decide +kernel
theorem dX2_text_37 : decode cX2_text 37 = .ok (.ldc 96, 2) := by decide +kernel
theorem dX2_text_39 : decode cX2_text 39 = .ok (.invokevirtual 82, 3) := by decide +kernel
theorem dX2_text_42 : decode cX2_text 42 = .ok (.aload_n 0, 1) := by decide +kernel
theorem dX2_text_43 : decode cX2_text 43 = .ok (.getfield 9, 3) := by decide +kernel
theorem dX2_text_46 : decode cX2_text 46 = .ok (.iload_n 1, 1) := by decide +kernel
theorem dX2_text_47 : decode cX2_text 47 = .ok (.laload, 1) := by decide +kernel
theorem dX2_text_48 : decode cX2_text 48 = .ok (.iconst 1, 1) := by decide +kernel
theorem dX2_text_49 : decode cX2_text 49 = .ok (.invokestatic 56, 3) := by decide +kernel
theorem dX2_text_52 : decode cX2_text 52 = .ok (.invokevirtual 93, 3) := by decide +kernel
theorem dX2_text_55 : decode cX2_text 55 = .ok (.ldc 96, 2) := by decide +kernel
theorem dX2_text_57 : decode cX2_text 57 = .ok (.invokevirtual 82, 3) := by decide +kernel
theorem dX2_text_60 : decode cX2_text 60 = .ok (.aload_n 0, 1) := by decide +kernel
theorem dX2_text_61 : decode cX2_text 61 = .ok (.getfield 9, 3) := by decide +kernel
theorem dX2_text_64 : decode cX2_text 64 = .ok (.iload_n 1, 1) := by decide +kernel
theorem dX2_text_65 : decode cX2_text 65 = .ok (.laload, 1) := by decide +kernel
theorem dX2_text_66 : decode cX2_text 66 = .ok (.iconst 2, 1) := by decide +kernel
theorem dX2_text_67 : decode cX2_text 67 = .ok (.invokestatic 56, 3) := by decide +kernel
theorem dX2_text_70 : decode cX2_text 70 = .ok (.invokevirtual 93, 3) := by decide +kernel
theorem dX2_text_73 : decode cX2_text 73 = .ok (.ldc 98, 2) := by decide +kernel
theorem dX2_text_75 : decode cX2_text 75 = .ok (.invokevirtual 82, 3) := by decide +kernel
theorem dX2_text_78 : decode cX2_text 78 = .ok (.aload_n 0, 1) := by decide +kernel
theorem dX2_text_79 : decode cX2_text 79 = .ok (.getfield 9, 3) := by decide +kernel
theorem dX2_text_82 : decode cX2_text 82 = .ok (.iload_n 1, 1) := by decide +kernel
theorem dX2_text_83 : decode cX2_text 83 = .ok (.laload, 1) := by decide +kernel
theorem dX2_text_84 : decode cX2_text 84 = .ok (.iconst 3, 1) := by decide +kernel
theorem dX2_text_85 : decode cX2_text 85 = .ok (.invokestatic 56, 3) := by decide +kernel
theorem dX2_text_88 : decode cX2_text 88 = .ok (.invokevirtual 93, 3) := by decide +kernel
theorem dX2_text_91 : decode cX2_text 91 = .ok (.invokevirtual 89, 3) := by decide +kernel
theorem dX2_text_94 : decode cX2_text 94 = .ok (.areturn, 1) := by decide +kernel
theorem dX2_beyond_0 : decode cX2_beyond 0 = .ok (.aload_n 0, 1) := by decide +kernel
theorem dX2_beyond_1 : decode cX2_beyond 1 = .ok (.iload_n 1, 1) := by decide +kernel
theorem dX2_beyond_2 : decode cX2_beyond 2 = .ok (.invokestatic 38, 3) := by decide +kernel
theorem dX2_beyond_5 : decode cX2_beyond 5 = .ok (.iload_n 2, 1) := by decide +kernel
theorem dX2_beyond_6 : decode cX2_beyond 6 = .ok (.iconst 0, 1) := by decide +kernel
theorem dX2_beyond_7 : decode cX2_beyond 7 = .ok (.bipush 7, 2) := by decide +kernel
theorem dX2_beyond_9 : decode cX2_beyond 9 = .ok (.invokestatic 17, 3) := by decide +kernel
theorem dX2_beyond_12 : decode cX2_beyond 12 = .ok (.ifCond .ne 7, 3) := by decide +kernel
theorem dX2_beyond_15 : decode cX2_beyond 15 = .ok (.iconst 1, 1) := by decide +kernel
theorem dX2_beyond_16 : decode cX2_beyond 16 = .ok (.goto 4, 3) := by decide +kernel
theorem dX2_beyond_19 : decode cX2_beyond 19 = .ok (.iconst 0, 1) := by decide +kernel
theorem dX2_beyond_20 : decode cX2_beyond 20 = .ok (.invokevirtual 43, 3) := by decide +kernel
theorem dX2_beyond_23 : decode cX2_beyond 23 = .ok (.ifCond .eq 8, 3) := by decide +kernel
theorem dX2_beyond_26 : decode cX2_beyond 26 = .ok (.ldc 77, 2) := by decide +kernel
theorem dX2_beyond_28 : decode cX2_beyond 28 = .ok (.goto 32, 3) := by decide +kernel
theorem dX2_beyond_31 : decode cX2_beyond 31 = .ok (.new 79, 3) := by decide +kernel
theorem dX2_beyond_34 : decode cX2_beyond 34 = .ok (.dup, 1) := by decide +kernel
theorem dX2_beyond_35 : decode cX2_beyond 35 = .ok (.invokespecial 81, 3) := by decide +kernel
theorem dX2_beyond_38 : decode cX2_beyond 38 = .ok (.ldc 77, 2) := by decide +kernel
theorem dX2_beyond_40 : decode cX2_beyond 40 = .ok (.invokevirtual 82, 3) := by decide +kernel
theorem dX2_beyond_43 : decode cX2_beyond 43 = .ok (.aload_n 0, 1) := by decide +kernel
theorem dX2_beyond_44 : decode cX2_beyond 44 = .ok (.getfield 9, 3) := by decide +kernel
theorem dX2_beyond_47 : decode cX2_beyond 47 = .ok (.iload_n 1, 1) := by decide +kernel
theorem dX2_beyond_48 : decode cX2_beyond 48 = .ok (.laload, 1) := by decide +kernel
theorem dX2_beyond_49 : decode cX2_beyond 49 = .ok (.iload_n 2, 1) := by decide +kernel
theorem dX2_beyond_50 : decode cX2_beyond 50 = .ok (.invokestatic 66, 3) := by decide +kernel
theorem dX2_beyond_53 : decode cX2_beyond 53 = .ok (.lrem, 1) := by decide +kernel
theorem dX2_beyond_54 : decode cX2_beyond 54 = .ok (.invokevirtual 86, 3) := by decide +kernel
theorem dX2_beyond_57 : decode cX2_beyond 57 = .ok (.invokevirtual 89, 3) := by decide +kernel
theorem dX2_beyond_60 : decode cX2_beyond 60 = .ok (.areturn, 1) := by decide +kernel
theorem dX2_order_0 : decode cX2_order 0 = .ok (.lload_n 0, 1) := by decide +kernel
theorem dX2_order_1 : decode cX2_order 1 = .ok (.lload_n 2, 1) := by decide +kernel
theorem dX2_order_2 : decode cX2_order 2 = .ok (.lcmp, 1) := by decide +kernel
theorem dX2_order_3 : decode cX2_order 3 = .ok (.ifCond .ge 7, 3) := by decide +kernel
theorem dX2_order_6 : decode cX2_order 6 = .ok (.iconst (-1), 1) := by decide +kernel
theorem dX2_order_7 : decode cX2_order 7 = .ok (.goto 14, 3) := by decide +kernel
theorem dX2_order_10 : decode cX2_order 10 = .ok (.lload_n 0, 1) := by decide +kernel
theorem dX2_order_11 : decode cX2_order 11 = .ok (.lload_n 2, 1) := by decide +kernel
theorem dX2_order_12 : decode cX2_order 12 = .ok (.lcmp, 1) := by decide +kernel
theorem dX2_order_13 : decode cX2_order 13 = .ok (.ifCond .le 7, 3) := by decide +kernel
theorem dX2_order_16 : decode cX2_order 16 = .ok (.iconst 1, 1) := by decide +kernel
theorem dX2_order_17 : decode cX2_order 17 = .ok (.goto 4, 3) := by decide +kernel
theorem dX2_order_20 : decode cX2_order 20 = .ok (.iconst 0, 1) := by decide +kernel
theorem dX2_order_21 : decode cX2_order 21 = .ok (.ireturn, 1) := by decide +kernel
theorem dX2_compare_0 : decode cX2_compare 0 = .ok (.aload_n 0, 1) := by decide +kernel
theorem dX2_compare_1 : decode cX2_compare 1 = .ok (.iload_n 1, 1) := by decide +kernel
theorem dX2_compare_2 : decode cX2_compare 2 = .ok (.invokestatic 38, 3) := by decide +kernel
theorem dX2_compare_5 : decode cX2_compare 5 = .ok (.ifCond .ne 10, 3) := by decide +kernel
theorem dX2_compare_8 : decode cX2_compare 8 = .ok (.iload_n 2, 1) := by decide +kernel
theorem dX2_compare_9 : decode cX2_compare 9 = .ok (.invokestatic 38, 3) := by decide +kernel
theorem dX2_compare_12 : decode cX2_compare 12 = .ok (.ifCond .eq 7, 3) := by decide +kernel
theorem dX2_compare_15 : decode cX2_compare 15 = .ok (.iconst 1, 1) := by decide +kernel
theorem dX2_compare_16 : decode cX2_compare 16 = .ok (.goto 4, 3) := by decide +kernel
theorem dX2_compare_19 : decode cX2_compare 19 = .ok (.iconst 0, 1) := by decide +kernel
theorem dX2_compare_20 : decode cX2_compare 20 = .ok (.iconst 0, 1) := by decide +kernel
theorem dX2_compare_21 : decode cX2_compare 21 = .ok (.invokevirtual 43, 3) := by decide +kernel
theorem dX2_compare_24 : decode cX2_compare 24 = .ok (.ifCond .eq 7, 3) := by decide +kernel
theorem dX2_compare_27 : decode cX2_compare 27 = .ok (.iconst 0, 1) := by decide +kernel
theorem dX2_compare_28 : decode cX2_compare 28 = .ok (.goto 18, 3) := by decide +kernel
theorem dX2_compare_31 : decode cX2_compare 31 = .ok (.aload_n 0, 1) := by decide +kernel
theorem dX2_compare_32 : decode cX2_compare 32 = .ok (.getfield 9, 3) := by decide +kernel
theorem dX2_compare_35 : decode cX2_compare 35 = .ok (.iload_n 1, 1) := by decide +kernel
theorem dX2_compare_36 : decode cX2_compare 36 = .ok (.laload, 1) := by decide +kernel
theorem dX2_compare_37 : decode cX2_compare 37 = .ok (.aload_n 0, 1) := by decide +kernel
theorem dX2_compare_38 : decode cX2_compare 38 = .ok (.getfield 9, 3) := by decide +kernel
theorem dX2_compare_41 : decode cX2_compare 41 = .ok (.iload_n 2, 1) := by decide +kernel
theorem dX2_compare_42 : decode cX2_compare 42 = .ok (.laload, 1) := by decide +kernel
theorem dX2_compare_43 : decode cX2_compare 43 = .ok (.invokestatic 100, 3) := by decide +kernel
theorem dX2_compare_46 : decode cX2_compare 46 = .ok (.ireturn, 1) := by decide +kernel
theorem dX2_isAhead_0 : decode cX2_isAhead 0 = .ok (.aload_n 0, 1) := by decide +kernel
theorem dX2_isAhead_1 : decode cX2_isAhead 1 = .ok (.iload_n 1, 1) := by decide +kernel
theorem dX2_isAhead_2 : decode cX2_isAhead 2 = .ok (.invokestatic 38, 3) := by decide +kernel
theorem dX2_isAhead_5 : decode cX2_isAhead 5 = .ok (.ifCond .ne 10, 3) := by decide +kernel
theorem dX2_isAhead_8 : decode cX2_isAhead 8 = .ok (.iload_n 2, 1) := by decide +kernel
theorem dX2_isAhead_9 : decode cX2_isAhead 9 = .ok (.invokestatic 38, 3) := by decide +kernel
theorem dX2_isAhead_12 : decode cX2_isAhead 12 = .ok (.ifCond .eq 7, 3) := by decide +kernel
theorem dX2_isAhead_15 : decode cX2_isAhead 15 = .ok (.iconst 1, 1) := by decide +kernel
theorem dX2_isAhead_16 : decode cX2_isAhead 16 = .ok (.goto 4, 3) := by decide +kernel
theorem dX2_isAhead_19 : decode cX2_isAhead 19 = .ok (.iconst 0, 1) := by decide +kernel
theorem dX2_isAhead_20 : decode cX2_isAhead 20 = .ok (.iconst 0, 1) := by decide +kernel
theorem dX2_isAhead_21 : decode cX2_isAhead 21 = .ok (.invokevirtual 43, 3) := by decide +kernel
theorem dX2_isAhead_24 : decode cX2_isAhead 24 = .ok (.ifCond .ne 23, 3) := by decide +kernel
theorem dX2_isAhead_27 : decode cX2_isAhead 27 = .ok (.aload_n 0, 1) := by decide +kernel
theorem dX2_isAhead_28 : decode cX2_isAhead 28 = .ok (.getfield 9, 3) := by decide +kernel
theorem dX2_isAhead_31 : decode cX2_isAhead 31 = .ok (.iload_n 1, 1) := by decide +kernel
theorem dX2_isAhead_32 : decode cX2_isAhead 32 = .ok (.laload, 1) := by decide +kernel
theorem dX2_isAhead_33 : decode cX2_isAhead 33 = .ok (.aload_n 0, 1) := by decide +kernel
theorem dX2_isAhead_34 : decode cX2_isAhead 34 = .ok (.getfield 9, 3) := by decide +kernel
theorem dX2_isAhead_37 : decode cX2_isAhead 37 = .ok (.iload_n 2, 1) := by decide +kernel
theorem dX2_isAhead_38 : decode cX2_isAhead 38 = .ok (.laload, 1) := by decide +kernel
theorem dX2_isAhead_39 : decode cX2_isAhead 39 = .ok (.lcmp, 1) := by decide +kernel
theorem dX2_isAhead_40 : decode cX2_isAhead 40 = .ok (.ifCond .ge 7, 3) := by decide +kernel
theorem dX2_isAhead_43 : decode cX2_isAhead 43 = .ok (.iconst 1, 1) := by decide +kernel
theorem dX2_isAhead_44 : decode cX2_isAhead 44 = .ok (.goto 4, 3) := by decide +kernel
theorem dX2_isAhead_47 : decode cX2_isAhead 47 = .ok (.iconst 0, 1) := by decide +kernel
theorem dX2_isAhead_48 : decode cX2_isAhead 48 = .ok (.ireturn, 1) := by decide +kernel
theorem dX2_isBehind_0 : decode cX2_isBehind 0 = .ok (.aload_n 0, 1) := by decide +kernel
theorem dX2_isBehind_1 : decode cX2_isBehind 1 = .ok (.iload_n 1, 1) := by decide +kernel
theorem dX2_isBehind_2 : decode cX2_isBehind 2 = .ok (.invokestatic 38, 3) := by decide +kernel
theorem dX2_isBehind_5 : decode cX2_isBehind 5 = .ok (.ifCond .ne 10, 3) := by decide +kernel
theorem dX2_isBehind_8 : decode cX2_isBehind 8 = .ok (.iload_n 2, 1) := by decide +kernel
theorem dX2_isBehind_9 : decode cX2_isBehind 9 = .ok (.invokestatic 38, 3) := by decide +kernel
theorem dX2_isBehind_12 : decode cX2_isBehind 12 = .ok (.ifCond .eq 7, 3) := by decide +kernel
theorem dX2_isBehind_15 : decode cX2_isBehind 15 = .ok (.iconst 1, 1) := by decide +kernel
theorem dX2_isBehind_16 : decode cX2_isBehind 16 = .ok (.goto 4, 3) := by decide +kernel
theorem dX2_isBehind_19 : decode cX2_isBehind 19 = .ok (.iconst 0, 1) := by decide +kernel
theorem dX2_isBehind_20 : decode cX2_isBehind 20 = .ok (.iconst 0, 1) := by decide +kernel
theorem dX2_isBehind_21 : decode cX2_isBehind 21 = .ok (.invokevirtual 43, 3) := by decide +kernel
theorem dX2_isBehind_24 : decode cX2_isBehind 24 = .ok (.ifCond .ne 23, 3) := by decide +kernel
theorem dX2_isBehind_27 : decode cX2_isBehind 27 = .ok (.aload_n 0, 1) := by decide +kernel
theorem dX2_isBehind_28 : decode cX2_isBehind 28 = .ok (.getfield 9, 3) := by decide +kernel
theorem dX2_isBehind_31 : decode cX2_isBehind 31 = .ok (.iload_n 1, 1) := by decide +kernel
theorem dX2_isBehind_32 : decode cX2_isBehind 32 = .ok (.laload, 1) := by decide +kernel
theorem dX2_isBehind_33 : decode cX2_isBehind 33 = .ok (.aload_n 0, 1) := by decide +kernel
theorem dX2_isBehind_34 : decode cX2_isBehind 34 = .ok (.getfield 9, 3) := by decide +kernel
theorem dX2_isBehind_37 : decode cX2_isBehind 37 = .ok (.iload_n 2, 1) := by decide +kernel
theorem dX2_isBehind_38 : decode cX2_isBehind 38 = .ok (.laload, 1) := by decide +kernel
theorem dX2_isBehind_39 : decode cX2_isBehind 39 = .ok (.lcmp, 1) := by decide +kernel
theorem dX2_isBehind_40 : decode cX2_isBehind 40 = .ok (.ifCond .le 7, 3) := by decide +kernel
theorem dX2_isBehind_43 : decode cX2_isBehind 43 = .ok (.iconst 1, 1) := by decide +kernel
theorem dX2_isBehind_44 : decode cX2_isBehind 44 = .ok (.goto 4, 3) := by decide +kernel
theorem dX2_isBehind_47 : decode cX2_isBehind 47 = .ok (.iconst 0, 1) := by decide +kernel
theorem dX2_isBehind_48 : decode cX2_isBehind 48 = .ok (.ireturn, 1) := by decide +kernel
theorem dX2_areAlike_0 : decode cX2_areAlike 0 = .ok (.aload_n 0, 1) := by decide +kernel
theorem dX2_areAlike_1 : decode cX2_areAlike 1 = .ok (.iload_n 1, 1) := by decide +kernel
theorem dX2_areAlike_2 : decode cX2_areAlike 2 = .ok (.invokestatic 38, 3) := by decide +kernel
theorem dX2_areAlike_5 : decode cX2_areAlike 5 = .ok (.ifCond .ne 10, 3) := by decide +kernel
theorem dX2_areAlike_8 : decode cX2_areAlike 8 = .ok (.iload_n 2, 1) := by decide +kernel
theorem dX2_areAlike_9 : decode cX2_areAlike 9 = .ok (.invokestatic 38, 3) := by decide +kernel
theorem dX2_areAlike_12 : decode cX2_areAlike 12 = .ok (.ifCond .eq 7, 3) := by decide +kernel
theorem dX2_areAlike_15 : decode cX2_areAlike 15 = .ok (.iconst 1, 1) := by decide +kernel
theorem dX2_areAlike_16 : decode cX2_areAlike 16 = .ok (.goto 4, 3) := by decide +kernel
theorem dX2_areAlike_19 : decode cX2_areAlike 19 = .ok (.iconst 0, 1) := by decide +kernel
theorem dX2_areAlike_20 : decode cX2_areAlike 20 = .ok (.iconst 0, 1) := by decide +kernel
theorem dX2_areAlike_21 : decode cX2_areAlike 21 = .ok (.invokevirtual 43, 3) := by decide +kernel
theorem dX2_areAlike_24 : decode cX2_areAlike 24 = .ok (.ifCond .ne 23, 3) := by decide +kernel
theorem dX2_areAlike_27 : decode cX2_areAlike 27 = .ok (.aload_n 0, 1) := by decide +kernel
theorem dX2_areAlike_28 : decode cX2_areAlike 28 = .ok (.getfield 9, 3) := by decide +kernel
theorem dX2_areAlike_31 : decode cX2_areAlike 31 = .ok (.iload_n 1, 1) := by decide +kernel
theorem dX2_areAlike_32 : decode cX2_areAlike 32 = .ok (.laload, 1) := by decide +kernel
theorem dX2_areAlike_33 : decode cX2_areAlike 33 = .ok (.aload_n 0, 1) := by decide +kernel
theorem dX2_areAlike_34 : decode cX2_areAlike 34 = .ok (.getfield 9, 3) := by decide +kernel
theorem dX2_areAlike_37 : decode cX2_areAlike 37 = .ok (.iload_n 2, 1) := by decide +kernel
theorem dX2_areAlike_38 : decode cX2_areAlike 38 = .ok (.laload, 1) := by decide +kernel
theorem dX2_areAlike_39 : decode cX2_areAlike 39 = .ok (.lcmp, 1) := by decide +kernel
theorem dX2_areAlike_40 : decode cX2_areAlike 40 = .ok (.ifCond .ne 7, 3) := by decide +kernel
theorem dX2_areAlike_43 : decode cX2_areAlike 43 = .ok (.iconst 1, 1) := by decide +kernel
theorem dX2_areAlike_44 : decode cX2_areAlike 44 = .ok (.goto 4, 3) := by decide +kernel
theorem dX2_areAlike_47 : decode cX2_areAlike 47 = .ok (.iconst 0, 1) := by decide +kernel
theorem dX2_areAlike_48 : decode cX2_areAlike 48 = .ok (.ireturn, 1) := by decide +kernel
theorem dX2_apart_0 : decode cX2_apart 0 = .ok (.aload_n 0, 1) := by decide +kernel
theorem dX2_apart_1 : decode cX2_apart 1 = .ok (.getfield 9, 3) := by decide +kernel
theorem dX2_apart_4 : decode cX2_apart 4 = .ok (.iload_n 2, 1) := by decide +kernel
theorem dX2_apart_5 : decode cX2_apart 5 = .ok (.laload, 1) := by decide +kernel
theorem dX2_apart_6 : decode cX2_apart 6 = .ok (.aload_n 0, 1) := by decide +kernel
theorem dX2_apart_7 : decode cX2_apart 7 = .ok (.getfield 9, 3) := by decide +kernel
theorem dX2_apart_10 : decode cX2_apart 10 = .ok (.iload_n 1, 1) := by decide +kernel
theorem dX2_apart_11 : decode cX2_apart 11 = .ok (.laload, 1) := by decide +kernel
theorem dX2_apart_12 : decode cX2_apart 12 = .ok (.lsub, 1) := by decide +kernel
theorem dX2_apart_13 : decode cX2_apart 13 = .ok (.iload_n 3, 1) := by decide +kernel
theorem dX2_apart_14 : decode cX2_apart 14 = .ok (.invokestatic 66, 3) := by decide +kernel
theorem dX2_apart_17 : decode cX2_apart 17 = .ok (.ldiv, 1) := by decide +kernel
theorem dX2_apart_18 : decode cX2_apart 18 = .ok (.lreturn, 1) := by decide +kernel
theorem dX2_between_0 : decode cX2_between 0 = .ok (.aload_n 0, 1) := by decide +kernel
theorem dX2_between_1 : decode cX2_between 1 = .ok (.iload_n 1, 1) := by decide +kernel
theorem dX2_between_2 : decode cX2_between 2 = .ok (.invokestatic 38, 3) := by decide +kernel
theorem dX2_between_5 : decode cX2_between 5 = .ok (.ifCond .ne 10, 3) := by decide +kernel
theorem dX2_between_8 : decode cX2_between 8 = .ok (.iload_n 2, 1) := by decide +kernel
theorem dX2_between_9 : decode cX2_between 9 = .ok (.invokestatic 38, 3) := by decide +kernel
theorem dX2_between_12 : decode cX2_between 12 = .ok (.ifCond .eq 7, 3) := by decide +kernel
theorem dX2_between_15 : decode cX2_between 15 = .ok (.iconst 1, 1) := by decide +kernel
theorem dX2_between_16 : decode cX2_between 16 = .ok (.goto 4, 3) := by decide +kernel
theorem dX2_between_19 : decode cX2_between 19 = .ok (.iconst 0, 1) := by decide +kernel
theorem dX2_between_20 : decode cX2_between 20 = .ok (.iload_n 3, 1) := by decide +kernel
theorem dX2_between_21 : decode cX2_between 21 = .ok (.iconst 0, 1) := by decide +kernel
theorem dX2_between_22 : decode cX2_between 22 = .ok (.bipush 6, 2) := by decide +kernel
theorem dX2_between_24 : decode cX2_between 24 = .ok (.invokestatic 17, 3) := by decide +kernel
theorem dX2_between_27 : decode cX2_between 27 = .ok (.ifCond .ne 7, 3) := by decide +kernel
theorem dX2_between_30 : decode cX2_between 30 = .ok (.iconst 1, 1) := by decide +kernel
theorem dX2_between_31 : decode cX2_between 31 = .ok (.goto 4, 3) := by decide +kernel
theorem dX2_between_34 : decode cX2_between 34 = .ok (.iconst 0, 1) := by decide +kernel
theorem dX2_between_35 : decode cX2_between 35 = .ok (.invokevirtual 43, 3) := by decide +kernel
theorem dX2_between_38 : decode cX2_between 38 = .ok (.ifCond .eq 8, 3) := by decide +kernel
theorem dX2_between_41 : decode cX2_between 41 = .ok (.ldc 77, 2) := by decide +kernel
theorem dX2_between_43 : decode cX2_between 43 = .ok (.goto 28, 3) := by decide +kernel
theorem dX2_between_46 : decode cX2_between 46 = .ok (.new 79, 3) := by decide +kernel
theorem dX2_between_49 : decode cX2_between 49 = .ok (.dup, 1) := by decide +kernel
theorem dX2_between_50 : decode cX2_between 50 = .ok (.invokespecial 81, 3) := by decide +kernel
theorem dX2_between_53 : decode cX2_between 53 = .ok (.ldc 77, 2) := by decide +kernel
theorem dX2_between_55 : decode cX2_between 55 = .ok (.invokevirtual 82, 3) := by decide +kernel
theorem dX2_between_58 : decode cX2_between 58 = .ok (.aload_n 0, 1) := by decide +kernel
theorem dX2_between_59 : decode cX2_between 59 = .ok (.iload_n 1, 1) := by decide +kernel
theorem dX2_between_60 : decode cX2_between 60 = .ok (.iload_n 2, 1) := by decide +kernel
theorem dX2_between_61 : decode cX2_between 61 = .ok (.iload_n 3, 1) := by decide +kernel
theorem dX2_between_62 : decode cX2_between 62 = .ok (.invokevirtual 104, 3) := by decide +kernel
theorem dX2_between_65 : decode cX2_between 65 = .ok (.invokevirtual 86, 3) := by decide +kernel
theorem dX2_between_68 : decode cX2_between 68 = .ok (.invokevirtual 89, 3) := by decide +kernel
theorem dX2_between_71 : decode cX2_between 71 = .ok (.areturn, 1) := by decide +kernel
theorem dX2_ordered_0 : decode cX2_ordered 0 = .ok (.ldc 77, 2) := by decide +kernel
theorem dX2_ordered_2 : decode cX2_ordered 2 = .ok (.astore_n 1, 1) := by decide +kernel
theorem dX2_ordered_3 : decode cX2_ordered 3 = .ok (.iconst 0, 1) := by decide +kernel
theorem dX2_ordered_4 : decode cX2_ordered 4 = .ok (.istore_n 2, 1) := by decide +kernel
theorem dX2_ordered_5 : decode cX2_ordered 5 = .ok (.iload_n 2, 1) := by decide +kernel
theorem dX2_ordered_6 : decode cX2_ordered 6 = .ok (.bipush 8, 2) := by decide +kernel
theorem dX2_ordered_8 : decode cX2_ordered 8 = .ok (.if_icmp .ge 131, 3) := by decide +kernel
theorem dX2_ordered_11 : decode cX2_ordered 11 = .ok (.iconst 0, 1) := by decide +kernel
theorem dX2_ordered_12 : decode cX2_ordered 12 = .ok (.istore_n 3, 1) := by decide +kernel
theorem dX2_ordered_13 : decode cX2_ordered 13 = .ok (.iload_n 3, 1) := by decide +kernel
theorem dX2_ordered_14 : decode cX2_ordered 14 = .ok (.bipush 8, 2) := by decide +kernel
theorem dX2_ordered_16 : decode cX2_ordered 16 = .ok (.if_icmp .ge 117, 3) := by decide +kernel
theorem dX2_ordered_19 : decode cX2_ordered 19 = .ok (.iconst 0, 1) := by decide +kernel
theorem dX2_ordered_20 : decode cX2_ordered 20 = .ok (.istore 4, 2) := by decide +kernel
theorem dX2_ordered_22 : decode cX2_ordered 22 = .ok (.iconst 0, 1) := by decide +kernel
theorem dX2_ordered_23 : decode cX2_ordered 23 = .ok (.istore 5, 2) := by decide +kernel
theorem dX2_ordered_25 : decode cX2_ordered 25 = .ok (.iload 5, 2) := by decide +kernel
theorem dX2_ordered_27 : decode cX2_ordered 27 = .ok (.bipush 8, 2) := by decide +kernel
theorem dX2_ordered_29 : decode cX2_ordered 29 = .ok (.if_icmp .ge 59, 3) := by decide +kernel
theorem dX2_ordered_32 : decode cX2_ordered 32 = .ok (.iload 4, 2) := by decide +kernel
theorem dX2_ordered_34 : decode cX2_ordered 34 = .ok (.aload_n 0, 1) := by decide +kernel
theorem dX2_ordered_35 : decode cX2_ordered 35 = .ok (.getfield 9, 3) := by decide +kernel
theorem dX2_ordered_38 : decode cX2_ordered 38 = .ok (.iload 5, 2) := by decide +kernel
theorem dX2_ordered_40 : decode cX2_ordered 40 = .ok (.laload, 1) := by decide +kernel
theorem dX2_ordered_41 : decode cX2_ordered 41 = .ok (.aload_n 0, 1) := by decide +kernel
theorem dX2_ordered_42 : decode cX2_ordered 42 = .ok (.getfield 9, 3) := by decide +kernel
theorem dX2_ordered_45 : decode cX2_ordered 45 = .ok (.iload_n 3, 1) := by decide +kernel
theorem dX2_ordered_46 : decode cX2_ordered 46 = .ok (.laload, 1) := by decide +kernel
theorem dX2_ordered_47 : decode cX2_ordered 47 = .ok (.lcmp, 1) := by decide +kernel
theorem dX2_ordered_48 : decode cX2_ordered 48 = .ok (.ifCond .lt 26, 3) := by decide +kernel
theorem dX2_ordered_51 : decode cX2_ordered 51 = .ok (.aload_n 0, 1) := by decide +kernel
theorem dX2_ordered_52 : decode cX2_ordered 52 = .ok (.getfield 9, 3) := by decide +kernel
theorem dX2_ordered_55 : decode cX2_ordered 55 = .ok (.iload 5, 2) := by decide +kernel
theorem dX2_ordered_57 : decode cX2_ordered 57 = .ok (.laload, 1) := by decide +kernel
theorem dX2_ordered_58 : decode cX2_ordered 58 = .ok (.aload_n 0, 1) := by decide +kernel
theorem dX2_ordered_59 : decode cX2_ordered 59 = .ok (.getfield 9, 3) := by decide +kernel
theorem dX2_ordered_62 : decode cX2_ordered 62 = .ok (.iload_n 3, 1) := by decide +kernel
theorem dX2_ordered_63 : decode cX2_ordered 63 = .ok (.laload, 1) := by decide +kernel
theorem dX2_ordered_64 : decode cX2_ordered 64 = .ok (.lcmp, 1) := by decide +kernel
theorem dX2_ordered_65 : decode cX2_ordered 65 = .ok (.ifCond .ne 13, 3) := by decide +kernel
theorem dX2_ordered_68 : decode cX2_ordered 68 = .ok (.iload 5, 2) := by decide +kernel
theorem dX2_ordered_70 : decode cX2_ordered 70 = .ok (.iload_n 3, 1) := by decide +kernel
theorem dX2_ordered_71 : decode cX2_ordered 71 = .ok (.if_icmp .ge 7, 3) := by decide +kernel
theorem dX2_ordered_74 : decode cX2_ordered 74 = .ok (.iconst 1, 1) := by decide +kernel
theorem dX2_ordered_75 : decode cX2_ordered 75 = .ok (.goto 4, 3) := by decide +kernel
theorem dX2_ordered_78 : decode cX2_ordered 78 = .ok (.iconst 0, 1) := by decide +kernel
theorem dX2_ordered_79 : decode cX2_ordered 79 = .ok (.iadd, 1) := by decide +kernel
theorem dX2_ordered_80 : decode cX2_ordered 80 = .ok (.istore 4, 2) := by decide +kernel
theorem dX2_ordered_82 : decode cX2_ordered 82 = .ok (.iinc 5 1, 3) := by decide +kernel
theorem dX2_ordered_85 : decode cX2_ordered 85 = .ok (.goto (-60), 3) := by decide +kernel
theorem dX2_ordered_88 : decode cX2_ordered 88 = .ok (.iload 4, 2) := by decide +kernel
theorem dX2_ordered_90 : decode cX2_ordered 90 = .ok (.iload_n 2, 1) := by decide +kernel
theorem dX2_ordered_91 : decode cX2_ordered 91 = .ok (.if_icmp .ne 36, 3) := by decide +kernel
theorem dX2_ordered_94 : decode cX2_ordered 94 = .ok (.new 79, 3) := by decide +kernel
theorem dX2_ordered_97 : decode cX2_ordered 97 = .ok (.dup, 1) := by decide +kernel
theorem dX2_ordered_98 : decode cX2_ordered 98 = .ok (.invokespecial 81, 3) := by decide +kernel
theorem dX2_ordered_101 : decode cX2_ordered 101 = .ok (.aload_n 1, 1) := by decide +kernel
theorem dX2_ordered_102 : decode cX2_ordered 102 = .ok (.invokevirtual 82, 3) := by decide +kernel
theorem dX2_ordered_105 : decode cX2_ordered 105 = .ok (.iload_n 2, 1) := by decide +kernel
theorem dX2_ordered_106 : decode cX2_ordered 106 = .ok (.ifCond .ne 8, 3) := by decide +kernel
theorem dX2_ordered_109 : decode cX2_ordered 109 = .ok (.ldc 77, 2) := by decide +kernel
theorem dX2_ordered_111 : decode cX2_ordered 111 = .ok (.goto 5, 3) := by decide +kernel
theorem dX2_ordered_114 : decode cX2_ordered 114 = .ok (.ldc 108, 2) := by decide +kernel
theorem dX2_ordered_116 : decode cX2_ordered 116 = .ok (.invokevirtual 82, 3) := by decide +kernel
theorem dX2_ordered_119 : decode cX2_ordered 119 = .ok (.iload_n 3, 1) := by decide +kernel
theorem dX2_ordered_120 : decode cX2_ordered 120 = .ok (.invokevirtual 93, 3) := by decide +kernel
theorem dX2_ordered_123 : decode cX2_ordered 123 = .ok (.invokevirtual 89, 3) := by decide +kernel
theorem dX2_ordered_126 : decode cX2_ordered 126 = .ok (.astore_n 1, 1) := by decide +kernel
theorem dX2_ordered_127 : decode cX2_ordered 127 = .ok (.iinc 3 1, 3) := by decide +kernel
theorem dX2_ordered_130 : decode cX2_ordered 130 = .ok (.goto (-117), 3) := by decide +kernel
theorem dX2_ordered_133 : decode cX2_ordered 133 = .ok (.iinc 2 1, 3) := by decide +kernel
theorem dX2_ordered_136 : decode cX2_ordered 136 = .ok (.goto (-131), 3) := by decide +kernel
theorem dX2_ordered_139 : decode cX2_ordered 139 = .ok (.aload_n 1, 1) := by decide +kernel
theorem dX2_ordered_140 : decode cX2_ordered 140 = .ok (.areturn, 1) := by decide +kernel
theorem dX2_order__0 : decode cX2_order_ 0 = .ok (.aload_n 0, 1) := by decide +kernel
theorem dX2_order__1 : decode cX2_order_ 1 = .ok (.iconst 0, 1) := by decide +kernel
theorem dX2_order__2 : decode cX2_order_ 2 = .ok (.putfield 13, 3) := by decide +kernel
theorem dX2_order__5 : decode cX2_order_ 5 = .ok (.aload_n 0, 1) := by decide +kernel
theorem dX2_order__6 : decode cX2_order_ 6 = .ok (.invokevirtual 110, 3) := by decide +kernel
theorem dX2_order__9 : decode cX2_order_ 9 = .ok (.areturn, 1) := by decide +kernel
theorem dX2_unlike_0 : decode cX2_unlike 0 = .ok (.iconst 0, 1) := by decide +kernel
theorem dX2_unlike_1 : decode cX2_unlike 1 = .ok (.istore_n 1, 1) := by decide +kernel
theorem dX2_unlike_2 : decode cX2_unlike 2 = .ok (.iconst 0, 1) := by decide +kernel
theorem dX2_unlike_3 : decode cX2_unlike 3 = .ok (.istore_n 2, 1) := by decide +kernel
theorem dX2_unlike_4 : decode cX2_unlike 4 = .ok (.iload_n 2, 1) := by decide +kernel
theorem dX2_unlike_5 : decode cX2_unlike 5 = .ok (.bipush 8, 2) := by decide +kernel
theorem dX2_unlike_7 : decode cX2_unlike 7 = .ok (.if_icmp .ge 63, 3) := by decide +kernel
theorem dX2_unlike_10 : decode cX2_unlike 10 = .ok (.iconst 1, 1) := by decide +kernel
theorem dX2_unlike_11 : decode cX2_unlike 11 = .ok (.istore_n 3, 1) := by decide +kernel
theorem dX2_unlike_12 : decode cX2_unlike 12 = .ok (.iconst 0, 1) := by decide +kernel
theorem dX2_unlike_13 : decode cX2_unlike 13 = .ok (.istore 4, 2) := by decide +kernel
theorem dX2_unlike_15 : decode cX2_unlike 15 = .ok (.iload 4, 2) := by decide +kernel
theorem dX2_unlike_17 : decode cX2_unlike 17 = .ok (.iload_n 2, 1) := by decide +kernel
theorem dX2_unlike_18 : decode cX2_unlike 18 = .ok (.if_icmp .ge 34, 3) := by decide +kernel
theorem dX2_unlike_21 : decode cX2_unlike 21 = .ok (.iload_n 3, 1) := by decide +kernel
theorem dX2_unlike_22 : decode cX2_unlike 22 = .ok (.aload_n 0, 1) := by decide +kernel
theorem dX2_unlike_23 : decode cX2_unlike 23 = .ok (.getfield 9, 3) := by decide +kernel
theorem dX2_unlike_26 : decode cX2_unlike 26 = .ok (.iload 4, 2) := by decide +kernel
theorem dX2_unlike_28 : decode cX2_unlike 28 = .ok (.laload, 1) := by decide +kernel
theorem dX2_unlike_29 : decode cX2_unlike 29 = .ok (.aload_n 0, 1) := by decide +kernel
theorem dX2_unlike_30 : decode cX2_unlike 30 = .ok (.getfield 9, 3) := by decide +kernel
theorem dX2_unlike_33 : decode cX2_unlike 33 = .ok (.iload_n 2, 1) := by decide +kernel
theorem dX2_unlike_34 : decode cX2_unlike 34 = .ok (.laload, 1) := by decide +kernel
theorem dX2_unlike_35 : decode cX2_unlike 35 = .ok (.lcmp, 1) := by decide +kernel
theorem dX2_unlike_36 : decode cX2_unlike 36 = .ok (.ifCond .eq 7, 3) := by decide +kernel
theorem dX2_unlike_39 : decode cX2_unlike 39 = .ok (.iconst 1, 1) := by decide +kernel
theorem dX2_unlike_40 : decode cX2_unlike 40 = .ok (.goto 4, 3) := by decide +kernel
theorem dX2_unlike_43 : decode cX2_unlike 43 = .ok (.iconst 0, 1) := by decide +kernel
theorem dX2_unlike_44 : decode cX2_unlike 44 = .ok (.iand, 1) := by decide +kernel
theorem dX2_unlike_45 : decode cX2_unlike 45 = .ok (.istore_n 3, 1) := by decide +kernel
theorem dX2_unlike_46 : decode cX2_unlike 46 = .ok (.iinc 4 1, 3) := by decide +kernel
theorem dX2_unlike_49 : decode cX2_unlike 49 = .ok (.goto (-34), 3) := by decide +kernel
theorem dX2_unlike_52 : decode cX2_unlike 52 = .ok (.iload_n 1, 1) := by decide +kernel
theorem dX2_unlike_53 : decode cX2_unlike 53 = .ok (.iload_n 3, 1) := by decide +kernel
theorem dX2_unlike_54 : decode cX2_unlike 54 = .ok (.ifCond .eq 7, 3) := by decide +kernel
theorem dX2_unlike_57 : decode cX2_unlike 57 = .ok (.iconst 1, 1) := by decide +kernel
theorem dX2_unlike_58 : decode cX2_unlike 58 = .ok (.goto 4, 3) := by decide +kernel
theorem dX2_unlike_61 : decode cX2_unlike 61 = .ok (.iconst 0, 1) := by decide +kernel
theorem dX2_unlike_62 : decode cX2_unlike 62 = .ok (.iadd, 1) := by decide +kernel
theorem dX2_unlike_63 : decode cX2_unlike 63 = .ok (.istore_n 1, 1) := by decide +kernel
theorem dX2_unlike_64 : decode cX2_unlike 64 = .ok (.iinc 2 1, 3) := by decide +kernel
theorem dX2_unlike_67 : decode cX2_unlike 67 = .ok (.goto (-63), 3) := by decide +kernel
theorem dX2_unlike_70 : decode cX2_unlike 70 = .ok (.iload_n 1, 1) := by decide +kernel
theorem dX2_unlike_71 : decode cX2_unlike 71 = .ok (.ireturn, 1) := by decide +kernel
theorem dX2_kinds_0 : decode cX2_kinds 0 = .ok (.aload_n 0, 1) := by decide +kernel
theorem dX2_kinds_1 : decode cX2_kinds 1 = .ok (.iconst 0, 1) := by decide +kernel
theorem dX2_kinds_2 : decode cX2_kinds 2 = .ok (.putfield 13, 3) := by decide +kernel
theorem dX2_kinds_5 : decode cX2_kinds 5 = .ok (.aload_n 0, 1) := by decide +kernel
theorem dX2_kinds_6 : decode cX2_kinds 6 = .ok (.invokevirtual 113, 3) := by decide +kernel
theorem dX2_kinds_9 : decode cX2_kinds 9 = .ok (.ireturn, 1) := by decide +kernel
theorem dX2_knock_0 : decode cX2_knock 0 = .ok (.aload_n 0, 1) := by decide +kernel
theorem dX2_knock_1 : decode cX2_knock 1 = .ok (.iconst 0, 1) := by decide +kernel
theorem dX2_knock_2 : decode cX2_knock 2 = .ok (.putfield 13, 3) := by decide +kernel
theorem dX2_knock_5 : decode cX2_knock 5 = .ok (.aload_n 0, 1) := by decide +kernel
theorem dX2_knock_6 : decode cX2_knock 6 = .ok (.dup, 1) := by decide +kernel
theorem dX2_knock_7 : decode cX2_knock 7 = .ok (.getfield 117, 3) := by decide +kernel
theorem dX2_knock_10 : decode cX2_knock 10 = .ok (.iconst 1, 1) := by decide +kernel
theorem dX2_knock_11 : decode cX2_knock 11 = .ok (.iadd, 1) := by decide +kernel
theorem dX2_knock_12 : decode cX2_knock 12 = .ok (.putfield 117, 3) := by decide +kernel
theorem dX2_knock_15 : decode cX2_knock 15 = .ok (.aload_n 0, 1) := by decide +kernel
theorem dX2_knock_16 : decode cX2_knock 16 = .ok (.getfield 117, 3) := by decide +kernel
theorem dX2_knock_19 : decode cX2_knock 19 = .ok (.ireturn, 1) := by decide +kernel
theorem dX2_house_0 : decode cX2_house 0 = .ok (.aload_n 0, 1) := by decide +kernel
theorem dX2_house_1 : decode cX2_house 1 = .ok (.iconst 0, 1) := by decide +kernel
theorem dX2_house_2 : decode cX2_house 2 = .ok (.iconst 0, 1) := by decide +kernel
theorem dX2_house_3 : decode cX2_house 3 = .ok (.invokevirtual 43, 3) := by decide +kernel
theorem dX2_house_6 : decode cX2_house 6 = .ok (.ifCond .ne 19, 3) := by decide +kernel
theorem dX2_house_9 : decode cX2_house 9 = .ok (.iload_n 1, 1) := by decide +kernel
theorem dX2_house_10 : decode cX2_house 10 = .ok (.iconst 0, 1) := by decide +kernel
theorem dX2_house_11 : decode cX2_house 11 = .ok (.iconst 1, 1) := by decide +kernel
theorem dX2_house_12 : decode cX2_house 12 = .ok (.invokestatic 17, 3) := by decide +kernel
theorem dX2_house_15 : decode cX2_house 15 = .ok (.ifCond .ne 14, 3) := by decide +kernel
theorem dX2_house_18 : decode cX2_house 18 = .ok (.aload_n 0, 1) := by decide +kernel
theorem dX2_house_19 : decode cX2_house 19 = .ok (.invokevirtual 120, 3) := by decide +kernel
theorem dX2_house_22 : decode cX2_house 22 = .ok (.ifCond .eq 7, 3) := by decide +kernel
theorem dX2_house_25 : decode cX2_house 25 = .ok (.iconst 0, 1) := by decide +kernel
theorem dX2_house_26 : decode cX2_house 26 = .ok (.goto 18, 3) := by decide +kernel
theorem dX2_house_29 : decode cX2_house 29 = .ok (.iload_n 1, 1) := by decide +kernel
theorem dX2_house_30 : decode cX2_house 30 = .ok (.ifCond .ne 10, 3) := by decide +kernel
theorem dX2_house_33 : decode cX2_house 33 = .ok (.aload_n 0, 1) := by decide +kernel
theorem dX2_house_34 : decode cX2_house 34 = .ok (.getfield 117, 3) := by decide +kernel
theorem dX2_house_37 : decode cX2_house 37 = .ok (.goto 7, 3) := by decide +kernel
theorem dX2_house_40 : decode cX2_house 40 = .ok (.aload_n 0, 1) := by decide +kernel
theorem dX2_house_41 : decode cX2_house 41 = .ok (.getfield 35, 3) := by decide +kernel
theorem dX2_house_44 : decode cX2_house 44 = .ok (.ireturn, 1) := by decide +kernel
theorem dX2_refused_0 : decode cX2_refused 0 = .ok (.aload_n 0, 1) := by decide +kernel
theorem dX2_refused_1 : decode cX2_refused 1 = .ok (.iconst 1, 1) := by decide +kernel
theorem dX2_refused_2 : decode cX2_refused 2 = .ok (.putfield 13, 3) := by decide +kernel
theorem dX2_refused_5 : decode cX2_refused 5 = .ok (.iconst 1, 1) := by decide +kernel
theorem dX2_refused_6 : decode cX2_refused 6 = .ok (.ireturn, 1) := by decide +kernel
theorem dX2_isSound_0 : decode cX2_isSound 0 = .ok (.aload_n 0, 1) := by decide +kernel
theorem dX2_isSound_1 : decode cX2_isSound 1 = .ok (.iconst 0, 1) := by decide +kernel
theorem dX2_isSound_2 : decode cX2_isSound 2 = .ok (.putfield 13, 3) := by decide +kernel
theorem dX2_isSound_5 : decode cX2_isSound 5 = .ok (.iconst 1, 1) := by decide +kernel
theorem dX2_isSound_6 : decode cX2_isSound 6 = .ok (.ireturn, 1) := by decide +kernel
theorem dX2_add_0 : decode cX2_add 0 = .ok (.lload_n 0, 1) := by decide +kernel
theorem dX2_add_1 : decode cX2_add 1 = .ok (.ldc2_w 124, 3) := by decide +kernel
theorem dX2_add_4 : decode cX2_add 4 = .ok (.lmul, 1) := by decide +kernel
theorem dX2_add_5 : decode cX2_add 5 = .ok (.lload_n 2, 1) := by decide +kernel
theorem dX2_add_6 : decode cX2_add 6 = .ok (.ladd, 1) := by decide +kernel
theorem dX2_add_7 : decode cX2_add 7 = .ok (.lreturn, 1) := by decide +kernel
theorem dX2_digest_0 : decode cX2_digest 0 = .ok (.aload_n 0, 1) := by decide +kernel
theorem dX2_digest_1 : decode cX2_digest 1 = .ok (.iconst 0, 1) := by decide +kernel
theorem dX2_digest_2 : decode cX2_digest 2 = .ok (.putfield 13, 3) := by decide +kernel
theorem dX2_digest_5 : decode cX2_digest 5 = .ok (.ldc2_w 126, 3) := by decide +kernel
theorem dX2_digest_8 : decode cX2_digest 8 = .ok (.aload_n 0, 1) := by decide +kernel
theorem dX2_digest_9 : decode cX2_digest 9 = .ok (.getfield 117, 3) := by decide +kernel
theorem dX2_digest_12 : decode cX2_digest 12 = .ok (.i2l, 1) := by decide +kernel
theorem dX2_digest_13 : decode cX2_digest 13 = .ok (.invokestatic 128, 3) := by decide +kernel
theorem dX2_digest_16 : decode cX2_digest 16 = .ok (.aload_n 0, 1) := by decide +kernel
theorem dX2_digest_17 : decode cX2_digest 17 = .ok (.getfield 35, 3) := by decide +kernel
theorem dX2_digest_20 : decode cX2_digest 20 = .ok (.i2l, 1) := by decide +kernel
theorem dX2_digest_21 : decode cX2_digest 21 = .ok (.invokestatic 128, 3) := by decide +kernel
theorem dX2_digest_24 : decode cX2_digest 24 = .ok (.lstore_n 1, 1) := by decide +kernel
theorem dX2_digest_25 : decode cX2_digest 25 = .ok (.aload_n 0, 1) := by decide +kernel
theorem dX2_digest_26 : decode cX2_digest 26 = .ok (.getfield 9, 3) := by decide +kernel
theorem dX2_digest_29 : decode cX2_digest 29 = .ok (.astore_n 3, 1) := by decide +kernel
theorem dX2_digest_30 : decode cX2_digest 30 = .ok (.aload_n 3, 1) := by decide +kernel
theorem dX2_digest_31 : decode cX2_digest 31 = .ok (.arraylength, 1) := by decide +kernel
theorem dX2_digest_32 : decode cX2_digest 32 = .ok (.istore 4, 2) := by decide +kernel
theorem dX2_digest_34 : decode cX2_digest 34 = .ok (.iconst 0, 1) := by decide +kernel
theorem dX2_digest_35 : decode cX2_digest 35 = .ok (.istore 5, 2) := by decide +kernel
theorem dX2_digest_37 : decode cX2_digest 37 = .ok (.iload 5, 2) := by decide +kernel
theorem dX2_digest_39 : decode cX2_digest 39 = .ok (.iload 4, 2) := by decide +kernel
theorem dX2_digest_41 : decode cX2_digest 41 = .ok (.if_icmp .ge 50, 3) := by decide +kernel
theorem dX2_digest_44 : decode cX2_digest 44 = .ok (.aload_n 3, 1) := by decide +kernel
theorem dX2_digest_45 : decode cX2_digest 45 = .ok (.iload 5, 2) := by decide +kernel
theorem dX2_digest_47 : decode cX2_digest 47 = .ok (.laload, 1) := by decide +kernel
theorem dX2_digest_48 : decode cX2_digest 48 = .ok (.lstore 6, 2) := by decide +kernel
theorem dX2_digest_50 : decode cX2_digest 50 = .ok (.iconst 0, 1) := by decide +kernel
theorem dX2_digest_51 : decode cX2_digest 51 = .ok (.istore 8, 2) := by decide +kernel
theorem dX2_digest_53 : decode cX2_digest 53 = .ok (.iload 8, 2) := by decide +kernel
theorem dX2_digest_55 : decode cX2_digest 55 = .ok (.iconst 5, 1) := by decide +kernel
theorem dX2_digest_56 : decode cX2_digest 56 = .ok (.if_icmp .ge 22, 3) := by decide +kernel
theorem dX2_digest_59 : decode cX2_digest 59 = .ok (.lload_n 1, 1) := by decide +kernel
theorem dX2_digest_60 : decode cX2_digest 60 = .ok (.lload 6, 2) := by decide +kernel
theorem dX2_digest_62 : decode cX2_digest 62 = .ok (.iload 8, 2) := by decide +kernel
theorem dX2_digest_64 : decode cX2_digest 64 = .ok (.invokestatic 56, 3) := by decide +kernel
theorem dX2_digest_67 : decode cX2_digest 67 = .ok (.i2l, 1) := by decide +kernel
theorem dX2_digest_68 : decode cX2_digest 68 = .ok (.invokestatic 128, 3) := by decide +kernel
theorem dX2_digest_71 : decode cX2_digest 71 = .ok (.lstore_n 1, 1) := by decide +kernel
theorem dX2_digest_72 : decode cX2_digest 72 = .ok (.iinc 8 1, 3) := by decide +kernel
theorem dX2_digest_75 : decode cX2_digest 75 = .ok (.goto (-22), 3) := by decide +kernel
theorem dX2_digest_78 : decode cX2_digest 78 = .ok (.lload_n 1, 1) := by decide +kernel
theorem dX2_digest_79 : decode cX2_digest 79 = .ok (.lload 6, 2) := by decide +kernel
theorem dX2_digest_81 : decode cX2_digest 81 = .ok (.invokestatic 128, 3) := by decide +kernel
theorem dX2_digest_84 : decode cX2_digest 84 = .ok (.lstore_n 1, 1) := by decide +kernel
theorem dX2_digest_85 : decode cX2_digest 85 = .ok (.iinc 5 1, 3) := by decide +kernel
theorem dX2_digest_88 : decode cX2_digest 88 = .ok (.goto (-51), 3) := by decide +kernel
theorem dX2_digest_91 : decode cX2_digest 91 = .ok (.iconst 0, 1) := by decide +kernel
theorem dX2_digest_92 : decode cX2_digest 92 = .ok (.istore_n 3, 1) := by decide +kernel
theorem dX2_digest_93 : decode cX2_digest 93 = .ok (.iload_n 3, 1) := by decide +kernel
theorem dX2_digest_94 : decode cX2_digest 94 = .ok (.bipush 8, 2) := by decide +kernel
theorem dX2_digest_96 : decode cX2_digest 96 = .ok (.if_icmp .ge 59, 3) := by decide +kernel
theorem dX2_digest_99 : decode cX2_digest 99 = .ok (.lload_n 1, 1) := by decide +kernel
theorem dX2_digest_100 : decode cX2_digest 100 = .ok (.aload_n 0, 1) := by decide +kernel
theorem dX2_digest_101 : decode cX2_digest 101 = .ok (.getfield 9, 3) := by decide +kernel
theorem dX2_digest_104 : decode cX2_digest 104 = .ok (.iconst 0, 1) := by decide +kernel
theorem dX2_digest_105 : decode cX2_digest 105 = .ok (.laload, 1) := by decide +kernel
theorem dX2_digest_106 : decode cX2_digest 106 = .ok (.aload_n 0, 1) := by decide +kernel
theorem dX2_digest_107 : decode cX2_digest 107 = .ok (.getfield 9, 3) := by decide +kernel
theorem dX2_digest_110 : decode cX2_digest 110 = .ok (.iload_n 3, 1) := by decide +kernel
theorem dX2_digest_111 : decode cX2_digest 111 = .ok (.laload, 1) := by decide +kernel
theorem dX2_digest_112 : decode cX2_digest 112 = .ok (.invokestatic 100, 3) := by decide +kernel
theorem dX2_digest_115 : decode cX2_digest 115 = .ok (.i2l, 1) := by decide +kernel
theorem dX2_digest_116 : decode cX2_digest 116 = .ok (.invokestatic 128, 3) := by decide +kernel
theorem dX2_digest_119 : decode cX2_digest 119 = .ok (.lstore_n 1, 1) := by decide +kernel
theorem dX2_digest_120 : decode cX2_digest 120 = .ok (.iconst 0, 1) := by decide +kernel
theorem dX2_digest_121 : decode cX2_digest 121 = .ok (.istore 4, 2) := by decide +kernel
theorem dX2_digest_123 : decode cX2_digest 123 = .ok (.iload 4, 2) := by decide +kernel
theorem dX2_digest_125 : decode cX2_digest 125 = .ok (.bipush 7, 2) := by decide +kernel
theorem dX2_digest_127 : decode cX2_digest 127 = .ok (.if_icmp .ge 22, 3) := by decide +kernel
theorem dX2_digest_130 : decode cX2_digest 130 = .ok (.lload_n 1, 1) := by decide +kernel
theorem dX2_digest_131 : decode cX2_digest 131 = .ok (.aload_n 0, 1) := by decide +kernel
theorem dX2_digest_132 : decode cX2_digest 132 = .ok (.iconst 0, 1) := by decide +kernel
theorem dX2_digest_133 : decode cX2_digest 133 = .ok (.iload_n 3, 1) := by decide +kernel
theorem dX2_digest_134 : decode cX2_digest 134 = .ok (.iload 4, 2) := by decide +kernel
theorem dX2_digest_136 : decode cX2_digest 136 = .ok (.invokevirtual 104, 3) := by decide +kernel
theorem dX2_digest_139 : decode cX2_digest 139 = .ok (.invokestatic 128, 3) := by decide +kernel
theorem dX2_digest_142 : decode cX2_digest 142 = .ok (.lstore_n 1, 1) := by decide +kernel
theorem dX2_digest_143 : decode cX2_digest 143 = .ok (.iinc 4 1, 3) := by decide +kernel
theorem dX2_digest_146 : decode cX2_digest 146 = .ok (.goto (-23), 3) := by decide +kernel
theorem dX2_digest_149 : decode cX2_digest 149 = .ok (.iinc 3 1, 3) := by decide +kernel
theorem dX2_digest_152 : decode cX2_digest 152 = .ok (.goto (-59), 3) := by decide +kernel
theorem dX2_digest_155 : decode cX2_digest 155 = .ok (.lload_n 1, 1) := by decide +kernel
theorem dX2_digest_156 : decode cX2_digest 156 = .ok (.aload_n 0, 1) := by decide +kernel
theorem dX2_digest_157 : decode cX2_digest 157 = .ok (.invokevirtual 113, 3) := by decide +kernel
theorem dX2_digest_160 : decode cX2_digest 160 = .ok (.i2l, 1) := by decide +kernel
theorem dX2_digest_161 : decode cX2_digest 161 = .ok (.invokestatic 128, 3) := by decide +kernel
theorem dX2_digest_164 : decode cX2_digest 164 = .ok (.lstore_n 1, 1) := by decide +kernel
theorem dX2_digest_165 : decode cX2_digest 165 = .ok (.aload_n 0, 1) := by decide +kernel
theorem dX2_digest_166 : decode cX2_digest 166 = .ok (.invokevirtual 110, 3) := by decide +kernel
theorem dX2_digest_169 : decode cX2_digest 169 = .ok (.astore_n 3, 1) := by decide +kernel
theorem dX2_digest_170 : decode cX2_digest 170 = .ok (.iconst 0, 1) := by decide +kernel
theorem dX2_digest_171 : decode cX2_digest 171 = .ok (.istore 4, 2) := by decide +kernel
theorem dX2_digest_173 : decode cX2_digest 173 = .ok (.iload 4, 2) := by decide +kernel
theorem dX2_digest_175 : decode cX2_digest 175 = .ok (.aload_n 3, 1) := by decide +kernel
theorem dX2_digest_176 : decode cX2_digest 176 = .ok (.invokevirtual 132, 3) := by decide +kernel
theorem dX2_digest_179 : decode cX2_digest 179 = .ok (.if_icmp .ge 21, 3) := by decide +kernel
theorem dX2_digest_182 : decode cX2_digest 182 = .ok (.lload_n 1, 1) := by decide +kernel
theorem dX2_digest_183 : decode cX2_digest 183 = .ok (.aload_n 3, 1) := by decide +kernel
theorem dX2_digest_184 : decode cX2_digest 184 = .ok (.iload 4, 2) := by decide +kernel
theorem dX2_digest_186 : decode cX2_digest 186 = .ok (.invokevirtual 137, 3) := by decide +kernel
theorem dX2_digest_189 : decode cX2_digest 189 = .ok (.i2l, 1) := by decide +kernel
theorem dX2_digest_190 : decode cX2_digest 190 = .ok (.invokestatic 128, 3) := by decide +kernel
theorem dX2_digest_193 : decode cX2_digest 193 = .ok (.lstore_n 1, 1) := by decide +kernel
theorem dX2_digest_194 : decode cX2_digest 194 = .ok (.iinc 4 1, 3) := by decide +kernel
theorem dX2_digest_197 : decode cX2_digest 197 = .ok (.goto (-24), 3) := by decide +kernel
theorem dX2_digest_200 : decode cX2_digest 200 = .ok (.lload_n 1, 1) := by decide +kernel
theorem dX2_digest_201 : decode cX2_digest 201 = .ok (.lconst 1, 1) := by decide +kernel
theorem dX2_digest_202 : decode cX2_digest 202 = .ok (.invokestatic 128, 3) := by decide +kernel
theorem dX2_digest_205 : decode cX2_digest 205 = .ok (.lreturn, 1) := by decide +kernel
