theorem dX0_init_0 : decode cX0_init 0 = .ok (.aload_n 0, 1) := by decide +kernel
theorem dX0_init_1 : decode cX0_init 1 = .ok (.invokespecial 1, 3) := by decide +kernel
theorem dX0_init_4 : decode cX0_init 4 = .ok (.aload_n 0, 1) := by decide +kernel
theorem dX0_init_5 : decode cX0_init 5 = .ok (.aload_n 1, 1) := by decide +kernel
theorem dX0_init_6 : decode cX0_init 6 = .ok (.putfield 7, 3) := by decide +kernel
theorem dX0_init_9 : decode cX0_init 9 = .ok (.aload_n 0, 1) := by decide +kernel
theorem dX0_init_10 : decode cX0_init 10 = .ok (.aload_n 2, 1) := by decide +kernel
theorem dX0_init_11 : decode cX0_init 11 = .ok (.putfield 13, 3) := by decide +kernel
theorem dX0_init_14 : decode cX0_init 14 = .ok (.aload_n 0, 1) := by decide +kernel
theorem dX0_init_15 : decode cX0_init 15 = .ok (.aload_n 3, 1) := by decide +kernel
theorem dX0_init_16 : decode cX0_init 16 = .ok (.putfield 16, 3) := by decide +kernel
theorem dX0_init_19 : decode cX0_init 19 = .ok (.aload_n 0, 1) := by decide +kernel
theorem dX0_init_20 : decode cX0_init 20 = .ok (.aload 4, 2) := by decide +kernel
theorem dX0_init_22 : decode cX0_init 22 = .ok (.putfield 20, 3) := by decide +kernel
theorem dX0_init_25 : decode cX0_init 25 = .ok (.return_, 1) := by decide +kernel
theorem dX0_guess_0 : decode cX0_guess 0 = .ok (.aload_n 0, 1) := by decide +kernel
theorem dX0_guess_1 : decode cX0_guess 1 = .ok (.iload_n 1, 1) := by decide +kernel
theorem dX0_guess_2 : decode cX0_guess 2 = .ok (.invokevirtual 24, 3) := by decide +kernel
theorem dX0_guess_5 : decode cX0_guess 5 = .ok (.aload_n 0, 1) := by decide +kernel
theorem dX0_guess_6 : decode cX0_guess 6 = .ok (.iload_n 1, 1) := by decide +kernel
theorem dX0_guess_7 : decode cX0_guess 7 = .ok (.invokevirtual 28, 3) := by decide +kernel
theorem dX0_guess_10 : decode cX0_guess 10 = .ok (.ladd, 1) := by decide +kernel
theorem dX0_guess_11 : decode cX0_guess 11 = .ok (.ldc2_w 31, 3) := by decide +kernel
theorem dX0_guess_14 : decode cX0_guess 14 = .ok (.ldiv, 1) := by decide +kernel
theorem dX0_guess_15 : decode cX0_guess 15 = .ok (.lreturn, 1) := by decide +kernel
theorem dX0_low_0 : decode cX0_low 0 = .ok (.aload_n 0, 1) := by decide +kernel
theorem dX0_low_1 : decode cX0_low 1 = .ok (.getfield 7, 3) := by decide +kernel
theorem dX0_low_4 : decode cX0_low 4 = .ok (.iload_n 1, 1) := by decide +kernel
theorem dX0_low_5 : decode cX0_low 5 = .ok (.invokevirtual 33, 3) := by decide +kernel
theorem dX0_low_8 : decode cX0_low 8 = .ok (.aload_n 0, 1) := by decide +kernel
theorem dX0_low_9 : decode cX0_low 9 = .ok (.getfield 13, 3) := by decide +kernel
theorem dX0_low_12 : decode cX0_low 12 = .ok (.iload_n 1, 1) := by decide +kernel
theorem dX0_low_13 : decode cX0_low 13 = .ok (.invokevirtual 33, 3) := by decide +kernel
theorem dX0_low_16 : decode cX0_low 16 = .ok (.invokestatic 36, 3) := by decide +kernel
theorem dX0_low_19 : decode cX0_low 19 = .ok (.lstore_n 2, 1) := by decide +kernel
theorem dX0_low_20 : decode cX0_low 20 = .ok (.lload_n 2, 1) := by decide +kernel
theorem dX0_low_21 : decode cX0_low 21 = .ok (.aload_n 0, 1) := by decide +kernel
theorem dX0_low_22 : decode cX0_low 22 = .ok (.getfield 16, 3) := by decide +kernel
theorem dX0_low_25 : decode cX0_low 25 = .ok (.iload_n 1, 1) := by decide +kernel
theorem dX0_low_26 : decode cX0_low 26 = .ok (.invokevirtual 42, 3) := by decide +kernel
theorem dX0_low_29 : decode cX0_low 29 = .ok (.aload_n 0, 1) := by decide +kernel
theorem dX0_low_30 : decode cX0_low 30 = .ok (.getfield 20, 3) := by decide +kernel
theorem dX0_low_33 : decode cX0_low 33 = .ok (.iload_n 1, 1) := by decide +kernel
theorem dX0_low_34 : decode cX0_low 34 = .ok (.invokevirtual 45, 3) := by decide +kernel
theorem dX0_low_37 : decode cX0_low 37 = .ok (.invokestatic 36, 3) := by decide +kernel
theorem dX0_low_40 : decode cX0_low 40 = .ok (.invokestatic 36, 3) := by decide +kernel
theorem dX0_low_43 : decode cX0_low 43 = .ok (.lreturn, 1) := by decide +kernel
theorem dX0_high_0 : decode cX0_high 0 = .ok (.aload_n 0, 1) := by decide +kernel
theorem dX0_high_1 : decode cX0_high 1 = .ok (.getfield 16, 3) := by decide +kernel
theorem dX0_high_4 : decode cX0_high 4 = .ok (.iload_n 1, 1) := by decide +kernel
theorem dX0_high_5 : decode cX0_high 5 = .ok (.invokevirtual 48, 3) := by decide +kernel
theorem dX0_high_8 : decode cX0_high 8 = .ok (.aload_n 0, 1) := by decide +kernel
theorem dX0_high_9 : decode cX0_high 9 = .ok (.getfield 20, 3) := by decide +kernel
theorem dX0_high_12 : decode cX0_high 12 = .ok (.iload_n 1, 1) := by decide +kernel
theorem dX0_high_13 : decode cX0_high 13 = .ok (.invokevirtual 49, 3) := by decide +kernel
theorem dX0_high_16 : decode cX0_high 16 = .ok (.invokestatic 50, 3) := by decide +kernel
theorem dX0_high_19 : decode cX0_high 19 = .ok (.lstore_n 2, 1) := by decide +kernel
theorem dX0_high_20 : decode cX0_high 20 = .ok (.lload_n 2, 1) := by decide +kernel
theorem dX0_high_21 : decode cX0_high 21 = .ok (.lconst 0, 1) := by decide +kernel
theorem dX0_high_22 : decode cX0_high 22 = .ok (.lcmp, 1) := by decide +kernel
theorem dX0_high_23 : decode cX0_high 23 = .ok (.ifCond .ne 5, 3) := by decide +kernel
theorem dX0_high_26 : decode cX0_high 26 = .ok (.lconst 0, 1) := by decide +kernel
theorem dX0_high_27 : decode cX0_high 27 = .ok (.lreturn, 1) := by decide +kernel
theorem dX0_high_28 : decode cX0_high 28 = .ok (.lload_n 2, 1) := by decide +kernel
theorem dX0_high_29 : decode cX0_high 29 = .ok (.aload_n 0, 1) := by decide +kernel
theorem dX0_high_30 : decode cX0_high 30 = .ok (.getfield 7, 3) := by decide +kernel
theorem dX0_high_33 : decode cX0_high 33 = .ok (.iload_n 1, 1) := by decide +kernel
theorem dX0_high_34 : decode cX0_high 34 = .ok (.invokevirtual 53, 3) := by decide +kernel
theorem dX0_high_37 : decode cX0_high 37 = .ok (.aload_n 0, 1) := by decide +kernel
theorem dX0_high_38 : decode cX0_high 38 = .ok (.getfield 13, 3) := by decide +kernel
theorem dX0_high_41 : decode cX0_high 41 = .ok (.iload_n 1, 1) := by decide +kernel
theorem dX0_high_42 : decode cX0_high 42 = .ok (.invokevirtual 53, 3) := by decide +kernel
theorem dX0_high_45 : decode cX0_high 45 = .ok (.invokestatic 50, 3) := by decide +kernel
theorem dX0_high_48 : decode cX0_high 48 = .ok (.invokestatic 50, 3) := by decide +kernel
theorem dX0_high_51 : decode cX0_high 51 = .ok (.lreturn, 1) := by decide +kernel
theorem dX1_init_0 : decode cX1_init 0 = .ok (.aload_n 0, 1) := by decide +kernel
theorem dX1_init_1 : decode cX1_init 1 = .ok (.invokespecial 3, 3) := by decide +kernel
theorem dX1_init_4 : decode cX1_init 4 = .ok (.aload_n 0, 1) := by decide +kernel
theorem dX1_init_5 : decode cX1_init 5 = .ok (.iload_n 2, 1) := by decide +kernel
theorem dX1_init_6 : decode cX1_init 6 = .ok (.putfield 9, 3) := by decide +kernel
theorem dX1_init_9 : decode cX1_init 9 = .ok (.aload_n 0, 1) := by decide +kernel
theorem dX1_init_10 : decode cX1_init 10 = .ok (.iconst 2, 1) := by decide +kernel
theorem dX1_init_11 : decode cX1_init 11 = .ok (.iload_n 2, 1) := by decide +kernel
theorem dX1_init_12 : decode cX1_init 12 = .ok (.imul, 1) := by decide +kernel
theorem dX1_init_13 : decode cX1_init 13 = .ok (.newarray .int, 2) := by decide +kernel
theorem dX1_init_15 : decode cX1_init 15 = .ok (.putfield 15, 3) := by decide +kernel
theorem dX1_init_18 : decode cX1_init 18 = .ok (.aload_n 0, 1) := by decide +kernel
theorem dX1_init_19 : decode cX1_init 19 = .ok (.iconst 2, 1) := by decide +kernel
theorem dX1_init_20 : decode cX1_init 20 = .ok (.iload_n 2, 1) := by decide +kernel
theorem dX1_init_21 : decode cX1_init 21 = .ok (.imul, 1) := by decide +kernel
theorem dX1_init_22 : decode cX1_init 22 = .ok (.newarray .long, 2) := by decide +kernel
theorem dX1_init_24 : decode cX1_init 24 = .ok (.putfield 19, 3) := by decide +kernel
theorem dX1_init_27 : decode cX1_init 27 = .ok (.aload_n 0, 1) := by decide +kernel
theorem dX1_init_28 : decode cX1_init 28 = .ok (.iconst 2, 1) := by decide +kernel
theorem dX1_init_29 : decode cX1_init 29 = .ok (.iload_n 2, 1) := by decide +kernel
theorem dX1_init_30 : decode cX1_init 30 = .ok (.imul, 1) := by decide +kernel
theorem dX1_init_31 : decode cX1_init 31 = .ok (.newarray .long, 2) := by decide +kernel
theorem dX1_init_33 : decode cX1_init 33 = .ok (.putfield 23, 3) := by decide +kernel
theorem dX1_init_36 : decode cX1_init 36 = .ok (.aload_n 0, 1) := by decide +kernel
theorem dX1_init_37 : decode cX1_init 37 = .ok (.new 26, 3) := by decide +kernel
theorem dX1_init_40 : decode cX1_init 40 = .ok (.dup, 1) := by decide +kernel
theorem dX1_init_41 : decode cX1_init 41 = .ok (.iload_n 1, 1) := by decide +kernel
theorem dX1_init_42 : decode cX1_init 42 = .ok (.invokespecial 28, 3) := by decide +kernel
theorem dX1_init_45 : decode cX1_init 45 = .ok (.putfield 31, 3) := by decide +kernel
theorem dX1_init_48 : decode cX1_init 48 = .ok (.return_, 1) := by decide +kernel
theorem dX1_isFull_0 : decode cX1_isFull 0 = .ok (.aload_n 0, 1) := by decide +kernel
theorem dX1_isFull_1 : decode cX1_isFull 1 = .ok (.getfield 35, 3) := by decide +kernel
theorem dX1_isFull_4 : decode cX1_isFull 4 = .ok (.aload_n 0, 1) := by decide +kernel
theorem dX1_isFull_5 : decode cX1_isFull 5 = .ok (.getfield 9, 3) := by decide +kernel
theorem dX1_isFull_8 : decode cX1_isFull 8 = .ok (.if_icmp .lt 7, 3) := by decide +kernel
theorem dX1_isFull_11 : decode cX1_isFull 11 = .ok (.iconst 1, 1) := by decide +kernel
theorem dX1_isFull_12 : decode cX1_isFull 12 = .ok (.goto 4, 3) := by decide +kernel
theorem dX1_isFull_15 : decode cX1_isFull 15 = .ok (.iconst 0, 1) := by decide +kernel
theorem dX1_isFull_16 : decode cX1_isFull 16 = .ok (.ireturn, 1) := by decide +kernel
theorem dX1_find_0 : decode cX1_find 0 = .ok (.aload_n 0, 1) := by decide +kernel
theorem dX1_find_1 : decode cX1_find 1 = .ok (.getfield 31, 3) := by decide +kernel
theorem dX1_find_4 : decode cX1_find 4 = .ok (.iload_n 1, 1) := by decide +kernel
theorem dX1_find_5 : decode cX1_find 5 = .ok (.invokevirtual 38, 3) := by decide +kernel
theorem dX1_find_8 : decode cX1_find 8 = .ok (.ifCond .eq 31, 3) := by decide +kernel
theorem dX1_find_11 : decode cX1_find 11 = .ok (.iconst 0, 1) := by decide +kernel
theorem dX1_find_12 : decode cX1_find 12 = .ok (.istore_n 2, 1) := by decide +kernel
theorem dX1_find_13 : decode cX1_find 13 = .ok (.iload_n 2, 1) := by decide +kernel
theorem dX1_find_14 : decode cX1_find 14 = .ok (.aload_n 0, 1) := by decide +kernel
theorem dX1_find_15 : decode cX1_find 15 = .ok (.getfield 35, 3) := by decide +kernel
theorem dX1_find_18 : decode cX1_find 18 = .ok (.if_icmp .ge 21, 3) := by decide +kernel
theorem dX1_find_21 : decode cX1_find 21 = .ok (.aload_n 0, 1) := by decide +kernel
theorem dX1_find_22 : decode cX1_find 22 = .ok (.getfield 15, 3) := by decide +kernel
theorem dX1_find_25 : decode cX1_find 25 = .ok (.iload_n 2, 1) := by decide +kernel
theorem dX1_find_26 : decode cX1_find 26 = .ok (.iaload, 1) := by decide +kernel
theorem dX1_find_27 : decode cX1_find 27 = .ok (.iload_n 1, 1) := by decide +kernel
theorem dX1_find_28 : decode cX1_find 28 = .ok (.if_icmp .ne 5, 3) := by decide +kernel
theorem dX1_find_31 : decode cX1_find 31 = .ok (.iload_n 2, 1) := by decide +kernel
theorem dX1_find_32 : decode cX1_find 32 = .ok (.ireturn, 1) := by decide +kernel
theorem dX1_find_33 : decode cX1_find 33 = .ok (.iinc 2 1, 3) := by decide +kernel
theorem dX1_find_36 : decode cX1_find 36 = .ok (.goto (-23), 3) := by decide +kernel
theorem dX1_find_39 : decode cX1_find 39 = .ok (.iconst (-1), 1) := by decide +kernel
theorem dX1_find_40 : decode cX1_find 40 = .ok (.ireturn, 1) := by decide +kernel
theorem dX1_tell_0 : decode cX1_tell 0 = .ok (.iload_n 1, 1) := by decide +kernel
theorem dX1_tell_1 : decode cX1_tell 1 = .ok (.ifCond .lt 11, 3) := by decide +kernel
theorem dX1_tell_4 : decode cX1_tell 4 = .ok (.iload_n 1, 1) := by decide +kernel
theorem dX1_tell_5 : decode cX1_tell 5 = .ok (.aload_n 0, 1) := by decide +kernel
theorem dX1_tell_6 : decode cX1_tell 6 = .ok (.getfield 35, 3) := by decide +kernel
theorem dX1_tell_9 : decode cX1_tell 9 = .ok (.if_icmp .lt 7, 3) := by decide +kernel
theorem dX1_tell_12 : decode cX1_tell 12 = .ok (.ldc2_w 42, 3) := by decide +kernel
theorem dX1_tell_15 : decode cX1_tell 15 = .ok (.lreturn, 1) := by decide +kernel
theorem dX1_tell_16 : decode cX1_tell 16 = .ok (.iload_n 2, 1) := by decide +kernel
theorem dX1_tell_17 : decode cX1_tell 17 = .ok (.tableswitch 49 0 2 #[27, 35, 42], 27) := by decide +kernel
theorem dX1_tell_44 : decode cX1_tell 44 = .ok (.aload_n 0, 1) := by decide +kernel
theorem dX1_tell_45 : decode cX1_tell 45 = .ok (.getfield 15, 3) := by decide +kernel
theorem dX1_tell_48 : decode cX1_tell 48 = .ok (.iload_n 1, 1) := by decide +kernel
theorem dX1_tell_49 : decode cX1_tell 49 = .ok (.iaload, 1) := by decide +kernel
theorem dX1_tell_50 : decode cX1_tell 50 = .ok (.i2l, 1) := by decide +kernel
theorem dX1_tell_51 : decode cX1_tell 51 = .ok (.lreturn, 1) := by decide +kernel
theorem dX1_tell_52 : decode cX1_tell 52 = .ok (.aload_n 0, 1) := by decide +kernel
theorem dX1_tell_53 : decode cX1_tell 53 = .ok (.getfield 19, 3) := by decide +kernel
theorem dX1_tell_56 : decode cX1_tell 56 = .ok (.iload_n 1, 1) := by decide +kernel
theorem dX1_tell_57 : decode cX1_tell 57 = .ok (.laload, 1) := by decide +kernel
theorem dX1_tell_58 : decode cX1_tell 58 = .ok (.lreturn, 1) := by decide +kernel
theorem dX1_tell_59 : decode cX1_tell 59 = .ok (.aload_n 0, 1) := by decide +kernel
theorem dX1_tell_60 : decode cX1_tell 60 = .ok (.getfield 23, 3) := by decide +kernel
theorem dX1_tell_63 : decode cX1_tell 63 = .ok (.iload_n 1, 1) := by decide +kernel
theorem dX1_tell_64 : decode cX1_tell 64 = .ok (.laload, 1) := by decide +kernel
theorem dX1_tell_65 : decode cX1_tell 65 = .ok (.lreturn, 1) := by decide +kernel
theorem dX1_tell_66 : decode cX1_tell 66 = .ok (.ldc2_w 42, 3) := by decide +kernel
theorem dX1_tell_69 : decode cX1_tell 69 = .ok (.lreturn, 1) := by decide +kernel
theorem dX1_append_0 : decode cX1_append 0 = .ok (.aload_n 0, 1) := by decide +kernel
theorem dX1_append_1 : decode cX1_append 1 = .ok (.aload_n 0, 1) := by decide +kernel
theorem dX1_append_2 : decode cX1_append 2 = .ok (.getfield 35, 3) := by decide +kernel
theorem dX1_append_5 : decode cX1_append 5 = .ok (.iload_n 1, 1) := by decide +kernel
theorem dX1_append_6 : decode cX1_append 6 = .ok (.lload_n 2, 1) := by decide +kernel
theorem dX1_append_7 : decode cX1_append 7 = .ok (.lload 4, 2) := by decide +kernel
theorem dX1_append_9 : decode cX1_append 9 = .ok (.invokevirtual 44, 3) := by decide +kernel
theorem dX1_append_12 : decode cX1_append 12 = .ok (.return_, 1) := by decide +kernel
theorem dX1_insert_0 : decode cX1_insert 0 = .ok (.iload_n 1, 1) := by decide +kernel
theorem dX1_insert_1 : decode cX1_insert 1 = .ok (.ifCond .lt 23, 3) := by decide +kernel
theorem dX1_insert_4 : decode cX1_insert 4 = .ok (.iload_n 1, 1) := by decide +kernel
theorem dX1_insert_5 : decode cX1_insert 5 = .ok (.aload_n 0, 1) := by decide +kernel
theorem dX1_insert_6 : decode cX1_insert 6 = .ok (.getfield 35, 3) := by decide +kernel
theorem dX1_insert_9 : decode cX1_insert 9 = .ok (.if_icmp .gt 15, 3) := by decide +kernel
theorem dX1_insert_12 : decode cX1_insert 12 = .ok (.aload_n 0, 1) := by decide +kernel
theorem dX1_insert_13 : decode cX1_insert 13 = .ok (.getfield 35, 3) := by decide +kernel
theorem dX1_insert_16 : decode cX1_insert 16 = .ok (.aload_n 0, 1) := by decide +kernel
theorem dX1_insert_17 : decode cX1_insert 17 = .ok (.getfield 15, 3) := by decide +kernel
theorem dX1_insert_20 : decode cX1_insert 20 = .ok (.arraylength, 1) := by decide +kernel
theorem dX1_insert_21 : decode cX1_insert 21 = .ok (.if_icmp .lt 4, 3) := by decide +kernel
theorem dX1_insert_24 : decode cX1_insert 24 = .ok (.return_, 1) := by decide +kernel
theorem dX1_insert_25 : decode cX1_insert 25 = .ok (.aload_n 0, 1) := by decide +kernel
theorem dX1_insert_26 : decode cX1_insert 26 = .ok (.iload_n 1, 1) := by decide +kernel
theorem dX1_insert_27 : decode cX1_insert 27 = .ok (.iload_n 1, 1) := by decide +kernel
theorem dX1_insert_28 : decode cX1_insert 28 = .ok (.iconst 1, 1) := by decide +kernel
theorem dX1_insert_29 : decode cX1_insert 29 = .ok (.iadd, 1) := by decide +kernel
theorem dX1_insert_30 : decode cX1_insert 30 = .ok (.invokevirtual 48, 3) := by decide +kernel
theorem dX1_insert_33 : decode cX1_insert 33 = .ok (.aload_n 0, 1) := by decide +kernel
theorem dX1_insert_34 : decode cX1_insert 34 = .ok (.iload_n 1, 1) := by decide +kernel
theorem dX1_insert_35 : decode cX1_insert 35 = .ok (.iload_n 2, 1) := by decide +kernel
theorem dX1_insert_36 : decode cX1_insert 36 = .ok (.lload_n 3, 1) := by decide +kernel
theorem dX1_insert_37 : decode cX1_insert 37 = .ok (.lload 5, 2) := by decide +kernel
theorem dX1_insert_39 : decode cX1_insert 39 = .ok (.invokevirtual 52, 3) := by decide +kernel
theorem dX1_insert_42 : decode cX1_insert 42 = .ok (.aload_n 0, 1) := by decide +kernel
theorem dX1_insert_43 : decode cX1_insert 43 = .ok (.dup, 1) := by decide +kernel
theorem dX1_insert_44 : decode cX1_insert 44 = .ok (.getfield 35, 3) := by decide +kernel
theorem dX1_insert_47 : decode cX1_insert 47 = .ok (.iconst 1, 1) := by decide +kernel
theorem dX1_insert_48 : decode cX1_insert 48 = .ok (.iadd, 1) := by decide +kernel
theorem dX1_insert_49 : decode cX1_insert 49 = .ok (.putfield 35, 3) := by decide +kernel
theorem dX1_insert_52 : decode cX1_insert 52 = .ok (.aload_n 0, 1) := by decide +kernel
theorem dX1_insert_53 : decode cX1_insert 53 = .ok (.getfield 31, 3) := by decide +kernel
theorem dX1_insert_56 : decode cX1_insert 56 = .ok (.iload_n 2, 1) := by decide +kernel
theorem dX1_insert_57 : decode cX1_insert 57 = .ok (.invokevirtual 55, 3) := by decide +kernel
theorem dX1_insert_60 : decode cX1_insert 60 = .ok (.return_, 1) := by decide +kernel
theorem dX1_remove_0 : decode cX1_remove 0 = .ok (.iload_n 1, 1) := by decide +kernel
theorem dX1_remove_1 : decode cX1_remove 1 = .ok (.ifCond .lt 11, 3) := by decide +kernel
theorem dX1_remove_4 : decode cX1_remove 4 = .ok (.iload_n 1, 1) := by decide +kernel
theorem dX1_remove_5 : decode cX1_remove 5 = .ok (.aload_n 0, 1) := by decide +kernel
theorem dX1_remove_6 : decode cX1_remove 6 = .ok (.getfield 35, 3) := by decide +kernel
theorem dX1_remove_9 : decode cX1_remove 9 = .ok (.if_icmp .lt 4, 3) := by decide +kernel
theorem dX1_remove_12 : decode cX1_remove 12 = .ok (.return_, 1) := by decide +kernel
theorem dX1_remove_13 : decode cX1_remove 13 = .ok (.aload_n 0, 1) := by decide +kernel
theorem dX1_remove_14 : decode cX1_remove 14 = .ok (.getfield 31, 3) := by decide +kernel
theorem dX1_remove_17 : decode cX1_remove 17 = .ok (.aload_n 0, 1) := by decide +kernel
theorem dX1_remove_18 : decode cX1_remove 18 = .ok (.getfield 15, 3) := by decide +kernel
theorem dX1_remove_21 : decode cX1_remove 21 = .ok (.iload_n 1, 1) := by decide +kernel
theorem dX1_remove_22 : decode cX1_remove 22 = .ok (.iaload, 1) := by decide +kernel
theorem dX1_remove_23 : decode cX1_remove 23 = .ok (.invokevirtual 58, 3) := by decide +kernel
theorem dX1_remove_26 : decode cX1_remove 26 = .ok (.aload_n 0, 1) := by decide +kernel
theorem dX1_remove_27 : decode cX1_remove 27 = .ok (.iload_n 1, 1) := by decide +kernel
theorem dX1_remove_28 : decode cX1_remove 28 = .ok (.iconst 1, 1) := by decide +kernel
theorem dX1_remove_29 : decode cX1_remove 29 = .ok (.iadd, 1) := by decide +kernel
theorem dX1_remove_30 : decode cX1_remove 30 = .ok (.iload_n 1, 1) := by decide +kernel
theorem dX1_remove_31 : decode cX1_remove 31 = .ok (.invokevirtual 48, 3) := by decide +kernel
theorem dX1_remove_34 : decode cX1_remove 34 = .ok (.aload_n 0, 1) := by decide +kernel
theorem dX1_remove_35 : decode cX1_remove 35 = .ok (.dup, 1) := by decide +kernel
theorem dX1_remove_36 : decode cX1_remove 36 = .ok (.getfield 35, 3) := by decide +kernel
theorem dX1_remove_39 : decode cX1_remove 39 = .ok (.iconst 1, 1) := by decide +kernel
theorem dX1_remove_40 : decode cX1_remove 40 = .ok (.isub, 1) := by decide +kernel
theorem dX1_remove_41 : decode cX1_remove 41 = .ok (.putfield 35, 3) := by decide +kernel
theorem dX1_remove_44 : decode cX1_remove 44 = .ok (.return_, 1) := by decide +kernel
theorem dX1_shift_0 : decode cX1_shift 0 = .ok (.aload_n 0, 1) := by decide +kernel
theorem dX1_shift_1 : decode cX1_shift 1 = .ok (.getfield 35, 3) := by decide +kernel
theorem dX1_shift_4 : decode cX1_shift 4 = .ok (.iload_n 1, 1) := by decide +kernel
theorem dX1_shift_5 : decode cX1_shift 5 = .ok (.isub, 1) := by decide +kernel
theorem dX1_shift_6 : decode cX1_shift 6 = .ok (.istore_n 3, 1) := by decide +kernel
theorem dX1_shift_7 : decode cX1_shift 7 = .ok (.aload_n 0, 1) := by decide +kernel
theorem dX1_shift_8 : decode cX1_shift 8 = .ok (.getfield 15, 3) := by decide +kernel
theorem dX1_shift_11 : decode cX1_shift 11 = .ok (.iload_n 1, 1) := by decide +kernel
theorem dX1_shift_12 : decode cX1_shift 12 = .ok (.aload_n 0, 1) := by decide +kernel
theorem dX1_shift_13 : decode cX1_shift 13 = .ok (.getfield 15, 3) := by decide +kernel
theorem dX1_shift_16 : decode cX1_shift 16 = .ok (.iload_n 2, 1) := by decide +kernel
theorem dX1_shift_17 : decode cX1_shift 17 = .ok (.iload_n 3, 1) := by decide +kernel
theorem dX1_shift_18 : decode cX1_shift 18 = .ok (.invokestatic 61, 3) := by decide +kernel
theorem dX1_shift_21 : decode cX1_shift 21 = .ok (.aload_n 0, 1) := by decide +kernel
theorem dX1_shift_22 : decode cX1_shift 22 = .ok (.getfield 19, 3) := by decide +kernel
theorem dX1_shift_25 : decode cX1_shift 25 = .ok (.iload_n 1, 1) := by decide +kernel
theorem dX1_shift_26 : decode cX1_shift 26 = .ok (.aload_n 0, 1) := by decide +kernel
theorem dX1_shift_27 : decode cX1_shift 27 = .ok (.getfield 19, 3) := by decide +kernel
theorem dX1_shift_30 : decode cX1_shift 30 = .ok (.iload_n 2, 1) := by decide +kernel
theorem dX1_shift_31 : decode cX1_shift 31 = .ok (.iload_n 3, 1) := by decide +kernel
theorem dX1_shift_32 : decode cX1_shift 32 = .ok (.invokestatic 61, 3) := by decide +kernel
theorem dX1_shift_35 : decode cX1_shift 35 = .ok (.aload_n 0, 1) := by decide +kernel
theorem dX1_shift_36 : decode cX1_shift 36 = .ok (.getfield 23, 3) := by decide +kernel
theorem dX1_shift_39 : decode cX1_shift 39 = .ok (.iload_n 1, 1) := by decide +kernel
theorem dX1_shift_40 : decode cX1_shift 40 = .ok (.aload_n 0, 1) := by decide +kernel
theorem dX1_shift_41 : decode cX1_shift 41 = .ok (.getfield 23, 3) := by decide +kernel
theorem dX1_shift_44 : decode cX1_shift 44 = .ok (.iload_n 2, 1) := by decide +kernel
theorem dX1_shift_45 : decode cX1_shift 45 = .ok (.iload_n 3, 1) := by decide +kernel
theorem dX1_shift_46 : decode cX1_shift 46 = .ok (.invokestatic 61, 3) := by decide +kernel
theorem dX1_shift_49 : decode cX1_shift 49 = .ok (.return_, 1) := by decide +kernel
theorem dX1_set_0 : decode cX1_set 0 = .ok (.aload_n 0, 1) := by decide +kernel
theorem dX1_set_1 : decode cX1_set 1 = .ok (.getfield 15, 3) := by decide +kernel
theorem dX1_set_4 : decode cX1_set 4 = .ok (.iload_n 1, 1) := by decide +kernel
theorem dX1_set_5 : decode cX1_set 5 = .ok (.iload_n 2, 1) := by decide +kernel
theorem dX1_set_6 : decode cX1_set 6 = .ok (.iastore, 1) := by decide +kernel
theorem dX1_set_7 : decode cX1_set 7 = .ok (.aload_n 0, 1) := by decide +kernel
theorem dX1_set_8 : decode cX1_set 8 = .ok (.getfield 19, 3) := by decide +kernel
theorem dX1_set_11 : decode cX1_set 11 = .ok (.iload_n 1, 1) := by decide +kernel
theorem dX1_set_12 : decode cX1_set 12 = .ok (.lload_n 3, 1) := by decide +kernel
theorem dX1_set_13 : decode cX1_set 13 = .ok (.lastore, 1) := by decide +kernel
theorem dX1_set_14 : decode cX1_set 14 = .ok (.aload_n 0, 1) := by decide +kernel
theorem dX1_set_15 : decode cX1_set 15 = .ok (.getfield 23, 3) := by decide +kernel
theorem dX1_set_18 : decode cX1_set 18 = .ok (.iload_n 1, 1) := by decide +kernel
theorem dX1_set_19 : decode cX1_set 19 = .ok (.lload 5, 2) := by decide +kernel
theorem dX1_set_21 : decode cX1_set 21 = .ok (.lastore, 1) := by decide +kernel
theorem dX1_set_22 : decode cX1_set 22 = .ok (.return_, 1) := by decide +kernel
theorem dX1_sortByNumberThenKey_0 : decode cX1_sortByNumberThenKey 0 = .ok (.iconst 1, 1) := by decide +kernel
theorem dX1_sortByNumberThenKey_1 : decode cX1_sortByNumberThenKey 1 = .ok (.istore_n 1, 1) := by decide +kernel
theorem dX1_sortByNumberThenKey_2 : decode cX1_sortByNumberThenKey 2 = .ok (.iload_n 1, 1) := by decide +kernel
theorem dX1_sortByNumberThenKey_3 : decode cX1_sortByNumberThenKey 3 = .ok (.aload_n 0, 1) := by decide +kernel
theorem dX1_sortByNumberThenKey_4 : decode cX1_sortByNumberThenKey 4 = .ok (.getfield 35, 3) := by decide +kernel
theorem dX1_sortByNumberThenKey_7 : decode cX1_sortByNumberThenKey 7 = .ok (.if_icmp .ge 101, 3) := by decide +kernel
theorem dX1_sortByNumberThenKey_10 : decode cX1_sortByNumberThenKey 10 = .ok (.aload_n 0, 1) := by decide +kernel
theorem dX1_sortByNumberThenKey_11 : decode cX1_sortByNumberThenKey 11 = .ok (.getfield 15, 3) := by decide +kernel
theorem dX1_sortByNumberThenKey_14 : decode cX1_sortByNumberThenKey 14 = .ok (.iload_n 1, 1) := by decide +kernel
theorem dX1_sortByNumberThenKey_15 : decode cX1_sortByNumberThenKey 15 = .ok (.iaload, 1) := by decide +kernel
theorem dX1_sortByNumberThenKey_16 : decode cX1_sortByNumberThenKey 16 = .ok (.istore_n 2, 1) := by decide +kernel
theorem dX1_sortByNumberThenKey_17 : decode cX1_sortByNumberThenKey 17 = .ok (.aload_n 0, 1) := by decide +kernel
theorem dX1_sortByNumberThenKey_18 : decode cX1_sortByNumberThenKey 18 = .ok (.getfield 19, 3) := by decide +kernel
theorem dX1_sortByNumberThenKey_21 : decode cX1_sortByNumberThenKey 21 = .ok (.iload_n 1, 1) := by decide +kernel
theorem dX1_sortByNumberThenKey_22 : decode cX1_sortByNumberThenKey 22 = .ok (.laload, 1) := by decide +kernel
theorem dX1_sortByNumberThenKey_23 : decode cX1_sortByNumberThenKey 23 = .ok (.lstore_n 3, 1) := by decide +kernel
theorem dX1_sortByNumberThenKey_24 : decode cX1_sortByNumberThenKey 24 = .ok (.aload_n 0, 1) := by decide +kernel
theorem dX1_sortByNumberThenKey_25 : decode cX1_sortByNumberThenKey 25 = .ok (.getfield 23, 3) := by decide +kernel
theorem dX1_sortByNumberThenKey_28 : decode cX1_sortByNumberThenKey 28 = .ok (.iload_n 1, 1) := by decide +kernel
theorem dX1_sortByNumberThenKey_29 : decode cX1_sortByNumberThenKey 29 = .ok (.laload, 1) := by decide +kernel
theorem dX1_sortByNumberThenKey_30 : decode cX1_sortByNumberThenKey 30 = .ok (.lstore 5, 2) := by decide +kernel
theorem dX1_sortByNumberThenKey_32 : decode cX1_sortByNumberThenKey 32 = .ok (.iload_n 1, 1) := by decide +kernel
theorem dX1_sortByNumberThenKey_33 : decode cX1_sortByNumberThenKey 33 = .ok (.istore 7, 2) := by decide +kernel
theorem dX1_sortByNumberThenKey_35 : decode cX1_sortByNumberThenKey 35 = .ok (.iload 7, 2) := by decide +kernel
theorem dX1_sortByNumberThenKey_37 : decode cX1_sortByNumberThenKey 37 = .ok (.ifCond .le 55, 3) := by decide +kernel
theorem dX1_sortByNumberThenKey_40 : decode cX1_sortByNumberThenKey 40 = .ok (.aload_n 0, 1) := by decide +kernel
theorem dX1_sortByNumberThenKey_41 : decode cX1_sortByNumberThenKey 41 = .ok (.iload 7, 2) := by decide +kernel
theorem dX1_sortByNumberThenKey_43 : decode cX1_sortByNumberThenKey 43 = .ok (.iconst 1, 1) := by decide +kernel
theorem dX1_sortByNumberThenKey_44 : decode cX1_sortByNumberThenKey 44 = .ok (.isub, 1) := by decide +kernel
theorem dX1_sortByNumberThenKey_45 : decode cX1_sortByNumberThenKey 45 = .ok (.lload_n 3, 1) := by decide +kernel
theorem dX1_sortByNumberThenKey_46 : decode cX1_sortByNumberThenKey 46 = .ok (.iload_n 2, 1) := by decide +kernel
theorem dX1_sortByNumberThenKey_47 : decode cX1_sortByNumberThenKey 47 = .ok (.invokevirtual 67, 3) := by decide +kernel
theorem dX1_sortByNumberThenKey_50 : decode cX1_sortByNumberThenKey 50 = .ok (.ifCond .eq 42, 3) := by decide +kernel
theorem dX1_sortByNumberThenKey_53 : decode cX1_sortByNumberThenKey 53 = .ok (.aload_n 0, 1) := by decide +kernel
theorem dX1_sortByNumberThenKey_54 : decode cX1_sortByNumberThenKey 54 = .ok (.iload 7, 2) := by decide +kernel
theorem dX1_sortByNumberThenKey_56 : decode cX1_sortByNumberThenKey 56 = .ok (.aload_n 0, 1) := by decide +kernel
theorem dX1_sortByNumberThenKey_57 : decode cX1_sortByNumberThenKey 57 = .ok (.getfield 15, 3) := by decide +kernel
theorem dX1_sortByNumberThenKey_60 : decode cX1_sortByNumberThenKey 60 = .ok (.iload 7, 2) := by decide +kernel
theorem dX1_sortByNumberThenKey_62 : decode cX1_sortByNumberThenKey 62 = .ok (.iconst 1, 1) := by decide +kernel
theorem dX1_sortByNumberThenKey_63 : decode cX1_sortByNumberThenKey 63 = .ok (.isub, 1) := by decide +kernel
theorem dX1_sortByNumberThenKey_64 : decode cX1_sortByNumberThenKey 64 = .ok (.iaload, 1) := by decide +kernel
theorem dX1_sortByNumberThenKey_65 : decode cX1_sortByNumberThenKey 65 = .ok (.aload_n 0, 1) := by decide +kernel
theorem dX1_sortByNumberThenKey_66 : decode cX1_sortByNumberThenKey 66 = .ok (.getfield 19, 3) := by decide +kernel
theorem dX1_sortByNumberThenKey_69 : decode cX1_sortByNumberThenKey 69 = .ok (.iload 7, 2) := by decide +kernel
theorem dX1_sortByNumberThenKey_71 : decode cX1_sortByNumberThenKey 71 = .ok (.iconst 1, 1) := by decide +kernel
theorem dX1_sortByNumberThenKey_72 : decode cX1_sortByNumberThenKey 72 = .ok (.isub, 1) := by decide +kernel
theorem dX1_sortByNumberThenKey_73 : decode cX1_sortByNumberThenKey 73 = .ok (.laload, 1) := by decide +kernel
theorem dX1_sortByNumberThenKey_74 : decode cX1_sortByNumberThenKey 74 = .ok (.aload_n 0, 1) := by decide +kernel
theorem dX1_sortByNumberThenKey_75 : decode cX1_sortByNumberThenKey 75 = .ok (.getfield 23, 3) := by decide +kernel
theorem dX1_sortByNumberThenKey_78 : decode cX1_sortByNumberThenKey 78 = .ok (.iload 7, 2) := by decide +kernel
theorem dX1_sortByNumberThenKey_80 : decode cX1_sortByNumberThenKey 80 = .ok (.iconst 1, 1) := by decide +kernel
theorem dX1_sortByNumberThenKey_81 : decode cX1_sortByNumberThenKey 81 = .ok (.isub, 1) := by decide +kernel
theorem dX1_sortByNumberThenKey_82 : decode cX1_sortByNumberThenKey 82 = .ok (.laload, 1) := by decide +kernel
theorem dX1_sortByNumberThenKey_83 : decode cX1_sortByNumberThenKey 83 = .ok (.invokevirtual 52, 3) := by decide +kernel
theorem dX1_sortByNumberThenKey_86 : decode cX1_sortByNumberThenKey 86 = .ok (.iinc 7 (-1), 3) := by decide +kernel
theorem dX1_sortByNumberThenKey_89 : decode cX1_sortByNumberThenKey 89 = .ok (.goto (-54), 3) := by decide +kernel
theorem dX1_sortByNumberThenKey_92 : decode cX1_sortByNumberThenKey 92 = .ok (.aload_n 0, 1) := by decide +kernel
theorem dX1_sortByNumberThenKey_93 : decode cX1_sortByNumberThenKey 93 = .ok (.iload 7, 2) := by decide +kernel
theorem dX1_sortByNumberThenKey_95 : decode cX1_sortByNumberThenKey 95 = .ok (.iload_n 2, 1) := by decide +kernel
theorem dX1_sortByNumberThenKey_96 : decode cX1_sortByNumberThenKey 96 = .ok (.lload_n 3, 1) := by decide +kernel
theorem dX1_sortByNumberThenKey_97 : decode cX1_sortByNumberThenKey 97 = .ok (.lload 5, 2) := by decide +kernel
theorem dX1_sortByNumberThenKey_99 : decode cX1_sortByNumberThenKey 99 = .ok (.invokevirtual 52, 3) := by decide +kernel
theorem dX1_sortByNumberThenKey_102 : decode cX1_sortByNumberThenKey 102 = .ok (.iinc 1 1, 3) := by decide +kernel
theorem dX1_sortByNumberThenKey_105 : decode cX1_sortByNumberThenKey 105 = .ok (.goto (-103), 3) := by decide +kernel
theorem dX1_sortByNumberThenKey_108 : decode cX1_sortByNumberThenKey 108 = .ok (.return_, 1) := by decide +kernel
theorem dX1_isBehind_0 : decode cX1_isBehind 0 = .ok (.aload_n 0, 1) := by decide +kernel
theorem dX1_isBehind_1 : decode cX1_isBehind 1 = .ok (.getfield 19, 3) := by decide +kernel
theorem dX1_isBehind_4 : decode cX1_isBehind 4 = .ok (.iload_n 1, 1) := by decide +kernel
theorem dX1_isBehind_5 : decode cX1_isBehind 5 = .ok (.laload, 1) := by decide +kernel
theorem dX1_isBehind_6 : decode cX1_isBehind 6 = .ok (.lload_n 2, 1) := by decide +kernel
theorem dX1_isBehind_7 : decode cX1_isBehind 7 = .ok (.lcmp, 1) := by decide +kernel
theorem dX1_isBehind_8 : decode cX1_isBehind 8 = .ok (.ifCond .gt 25, 3) := by decide +kernel
theorem dX1_isBehind_11 : decode cX1_isBehind 11 = .ok (.aload_n 0, 1) := by decide +kernel
theorem dX1_isBehind_12 : decode cX1_isBehind 12 = .ok (.getfield 19, 3) := by decide +kernel
theorem dX1_isBehind_15 : decode cX1_isBehind 15 = .ok (.iload_n 1, 1) := by decide +kernel
theorem dX1_isBehind_16 : decode cX1_isBehind 16 = .ok (.laload, 1) := by decide +kernel
theorem dX1_isBehind_17 : decode cX1_isBehind 17 = .ok (.lload_n 2, 1) := by decide +kernel
theorem dX1_isBehind_18 : decode cX1_isBehind 18 = .ok (.lcmp, 1) := by decide +kernel
theorem dX1_isBehind_19 : decode cX1_isBehind 19 = .ok (.ifCond .ne 18, 3) := by decide +kernel
theorem dX1_isBehind_22 : decode cX1_isBehind 22 = .ok (.aload_n 0, 1) := by decide +kernel
theorem dX1_isBehind_23 : decode cX1_isBehind 23 = .ok (.getfield 15, 3) := by decide +kernel
theorem dX1_isBehind_26 : decode cX1_isBehind 26 = .ok (.iload_n 1, 1) := by decide +kernel
theorem dX1_isBehind_27 : decode cX1_isBehind 27 = .ok (.iaload, 1) := by decide +kernel
theorem dX1_isBehind_28 : decode cX1_isBehind 28 = .ok (.iload 4, 2) := by decide +kernel
theorem dX1_isBehind_30 : decode cX1_isBehind 30 = .ok (.if_icmp .le 7, 3) := by decide +kernel
theorem dX1_isBehind_33 : decode cX1_isBehind 33 = .ok (.iconst 1, 1) := by decide +kernel
theorem dX1_isBehind_34 : decode cX1_isBehind 34 = .ok (.goto 4, 3) := by decide +kernel
theorem dX1_isBehind_37 : decode cX1_isBehind 37 = .ok (.iconst 0, 1) := by decide +kernel
theorem dX1_isBehind_38 : decode cX1_isBehind 38 = .ok (.ireturn, 1) := by decide +kernel
theorem dX1_makeEmpty_0 : decode cX1_makeEmpty 0 = .ok (.aload_n 0, 1) := by decide +kernel
theorem dX1_makeEmpty_1 : decode cX1_makeEmpty 1 = .ok (.iconst 0, 1) := by decide +kernel
theorem dX1_makeEmpty_2 : decode cX1_makeEmpty 2 = .ok (.putfield 35, 3) := by decide +kernel
theorem dX1_makeEmpty_5 : decode cX1_makeEmpty 5 = .ok (.aload_n 0, 1) := by decide +kernel
theorem dX1_makeEmpty_6 : decode cX1_makeEmpty 6 = .ok (.getfield 31, 3) := by decide +kernel
theorem dX1_makeEmpty_9 : decode cX1_makeEmpty 9 = .ok (.invokevirtual 71, 3) := by decide +kernel
theorem dX1_makeEmpty_12 : decode cX1_makeEmpty 12 = .ok (.return_, 1) := by decide +kernel
theorem dX1_become_0 : decode cX1_become 0 = .ok (.aload_n 1, 1) := by decide +kernel
theorem dX1_become_1 : decode cX1_become 1 = .ok (.getfield 15, 3) := by decide +kernel
theorem dX1_become_4 : decode cX1_become 4 = .ok (.iconst 0, 1) := by decide +kernel
theorem dX1_become_5 : decode cX1_become 5 = .ok (.aload_n 0, 1) := by decide +kernel
theorem dX1_become_6 : decode cX1_become 6 = .ok (.getfield 15, 3) := by decide +kernel
theorem dX1_become_9 : decode cX1_become 9 = .ok (.iconst 0, 1) := by decide +kernel
theorem dX1_become_10 : decode cX1_become 10 = .ok (.aload_n 1, 1) := by decide +kernel
theorem dX1_become_11 : decode cX1_become 11 = .ok (.getfield 35, 3) := by decide +kernel
theorem dX1_become_14 : decode cX1_become 14 = .ok (.invokestatic 61, 3) := by decide +kernel
theorem dX1_become_17 : decode cX1_become 17 = .ok (.aload_n 1, 1) := by decide +kernel
theorem dX1_become_18 : decode cX1_become 18 = .ok (.getfield 19, 3) := by decide +kernel
theorem dX1_become_21 : decode cX1_become 21 = .ok (.iconst 0, 1) := by decide +kernel
theorem dX1_become_22 : decode cX1_become 22 = .ok (.aload_n 0, 1) := by decide +kernel
theorem dX1_become_23 : decode cX1_become 23 = .ok (.getfield 19, 3) := by decide +kernel
theorem dX1_become_26 : decode cX1_become 26 = .ok (.iconst 0, 1) := by decide +kernel
theorem dX1_become_27 : decode cX1_become 27 = .ok (.aload_n 1, 1) := by decide +kernel
theorem dX1_become_28 : decode cX1_become 28 = .ok (.getfield 35, 3) := by decide +kernel
theorem dX1_become_31 : decode cX1_become 31 = .ok (.invokestatic 61, 3) := by decide +kernel
theorem dX1_become_34 : decode cX1_become 34 = .ok (.aload_n 1, 1) := by decide +kernel
theorem dX1_become_35 : decode cX1_become 35 = .ok (.getfield 23, 3) := by decide +kernel
theorem dX1_become_38 : decode cX1_become 38 = .ok (.iconst 0, 1) := by decide +kernel
theorem dX1_become_39 : decode cX1_become 39 = .ok (.aload_n 0, 1) := by decide +kernel
theorem dX1_become_40 : decode cX1_become 40 = .ok (.getfield 23, 3) := by decide +kernel
theorem dX1_become_43 : decode cX1_become 43 = .ok (.iconst 0, 1) := by decide +kernel
theorem dX1_become_44 : decode cX1_become 44 = .ok (.aload_n 1, 1) := by decide +kernel
theorem dX1_become_45 : decode cX1_become 45 = .ok (.getfield 35, 3) := by decide +kernel
theorem dX1_become_48 : decode cX1_become 48 = .ok (.invokestatic 61, 3) := by decide +kernel
theorem dX1_become_51 : decode cX1_become 51 = .ok (.aload_n 0, 1) := by decide +kernel
theorem dX1_become_52 : decode cX1_become 52 = .ok (.aload_n 1, 1) := by decide +kernel
theorem dX1_become_53 : decode cX1_become 53 = .ok (.getfield 35, 3) := by decide +kernel
theorem dX1_become_56 : decode cX1_become 56 = .ok (.putfield 35, 3) := by decide +kernel
theorem dX1_become_59 : decode cX1_become 59 = .ok (.aload_n 0, 1) := by decide +kernel
theorem dX1_become_60 : decode cX1_become 60 = .ok (.getfield 31, 3) := by decide +kernel
theorem dX1_become_63 : decode cX1_become 63 = .ok (.aload_n 1, 1) := by decide +kernel
theorem dX1_become_64 : decode cX1_become 64 = .ok (.getfield 31, 3) := by decide +kernel
theorem dX1_become_67 : decode cX1_become 67 = .ok (.invokevirtual 74, 3) := by decide +kernel
theorem dX1_become_70 : decode cX1_become 70 = .ok (.return_, 1) := by decide +kernel
theorem dX2_init_0 : decode cX2_init 0 = .ok (.aload_n 0, 1) := by decide +kernel
theorem dX2_init_1 : decode cX2_init 1 = .ok (.invokespecial 3, 3) := by decide +kernel
theorem dX2_init_4 : decode cX2_init 4 = .ok (.iload_n 1, 1) := by decide +kernel
theorem dX2_init_5 : decode cX2_init 5 = .ok (.sipush 300, 3) := by decide +kernel
theorem dX2_init_8 : decode cX2_init 8 = .ok (.invokestatic 9, 3) := by decide +kernel
theorem dX2_init_11 : decode cX2_init 11 = .ok (.istore_n 2, 1) := by decide +kernel
theorem dX2_init_12 : decode cX2_init 12 = .ok (.aload_n 0, 1) := by decide +kernel
theorem dX2_init_13 : decode cX2_init 13 = .ok (.iload_n 2, 1) := by decide +kernel
theorem dX2_init_14 : decode cX2_init 14 = .ok (.newarray .int, 2) := by decide +kernel
theorem dX2_init_16 : decode cX2_init 16 = .ok (.putfield 15, 3) := by decide +kernel
theorem dX2_init_19 : decode cX2_init 19 = .ok (.aload_n 0, 1) := by decide +kernel
theorem dX2_init_20 : decode cX2_init 20 = .ok (.iload_n 2, 1) := by decide +kernel
theorem dX2_init_21 : decode cX2_init 21 = .ok (.newarray .long, 2) := by decide +kernel
theorem dX2_init_23 : decode cX2_init 23 = .ok (.putfield 21, 3) := by decide +kernel
theorem dX2_init_26 : decode cX2_init 26 = .ok (.return_, 1) := by decide +kernel
theorem dX2_numberOf_0 : decode cX2_numberOf 0 = .ok (.aload_n 0, 1) := by decide +kernel
theorem dX2_numberOf_1 : decode cX2_numberOf 1 = .ok (.iload_n 1, 1) := by decide +kernel
theorem dX2_numberOf_2 : decode cX2_numberOf 2 = .ok (.invokevirtual 25, 3) := by decide +kernel
theorem dX2_numberOf_5 : decode cX2_numberOf 5 = .ok (.istore_n 2, 1) := by decide +kernel
theorem dX2_numberOf_6 : decode cX2_numberOf 6 = .ok (.aload_n 0, 1) := by decide +kernel
theorem dX2_numberOf_7 : decode cX2_numberOf 7 = .ok (.iload_n 2, 1) := by decide +kernel
theorem dX2_numberOf_8 : decode cX2_numberOf 8 = .ok (.iload_n 1, 1) := by decide +kernel
theorem dX2_numberOf_9 : decode cX2_numberOf 9 = .ok (.invokevirtual 29, 3) := by decide +kernel
theorem dX2_numberOf_12 : decode cX2_numberOf 12 = .ok (.ifCond .eq 12, 3) := by decide +kernel
theorem dX2_numberOf_15 : decode cX2_numberOf 15 = .ok (.aload_n 0, 1) := by decide +kernel
theorem dX2_numberOf_16 : decode cX2_numberOf 16 = .ok (.getfield 21, 3) := by decide +kernel
theorem dX2_numberOf_19 : decode cX2_numberOf 19 = .ok (.iload_n 2, 1) := by decide +kernel
theorem dX2_numberOf_20 : decode cX2_numberOf 20 = .ok (.laload, 1) := by decide +kernel
theorem dX2_numberOf_21 : decode cX2_numberOf 21 = .ok (.goto 4, 3) := by decide +kernel
theorem dX2_numberOf_24 : decode cX2_numberOf 24 = .ok (.lconst 0, 1) := by decide +kernel
theorem dX2_numberOf_25 : decode cX2_numberOf 25 = .ok (.lreturn, 1) := by decide +kernel
theorem dX2_isAt_0 : decode cX2_isAt 0 = .ok (.iload_n 1, 1) := by decide +kernel
theorem dX2_isAt_1 : decode cX2_isAt 1 = .ok (.aload_n 0, 1) := by decide +kernel
theorem dX2_isAt_2 : decode cX2_isAt 2 = .ok (.getfield 33, 3) := by decide +kernel
theorem dX2_isAt_5 : decode cX2_isAt 5 = .ok (.if_icmp .ge 17, 3) := by decide +kernel
theorem dX2_isAt_8 : decode cX2_isAt 8 = .ok (.aload_n 0, 1) := by decide +kernel
theorem dX2_isAt_9 : decode cX2_isAt 9 = .ok (.getfield 15, 3) := by decide +kernel
theorem dX2_isAt_12 : decode cX2_isAt 12 = .ok (.iload_n 1, 1) := by decide +kernel
theorem dX2_isAt_13 : decode cX2_isAt 13 = .ok (.iaload, 1) := by decide +kernel
theorem dX2_isAt_14 : decode cX2_isAt 14 = .ok (.iload_n 2, 1) := by decide +kernel
theorem dX2_isAt_15 : decode cX2_isAt 15 = .ok (.if_icmp .ne 7, 3) := by decide +kernel
theorem dX2_isAt_18 : decode cX2_isAt 18 = .ok (.iconst 1, 1) := by decide +kernel
theorem dX2_isAt_19 : decode cX2_isAt 19 = .ok (.goto 4, 3) := by decide +kernel
theorem dX2_isAt_22 : decode cX2_isAt 22 = .ok (.iconst 0, 1) := by decide +kernel
theorem dX2_isAt_23 : decode cX2_isAt 23 = .ok (.ireturn, 1) := by decide +kernel
theorem dX2_placeOf_0 : decode cX2_placeOf 0 = .ok (.iconst 0, 1) := by decide +kernel
theorem dX2_placeOf_1 : decode cX2_placeOf 1 = .ok (.istore_n 2, 1) := by decide +kernel
theorem dX2_placeOf_2 : decode cX2_placeOf 2 = .ok (.sipush 256, 3) := by decide +kernel
theorem dX2_placeOf_5 : decode cX2_placeOf 5 = .ok (.istore_n 3, 1) := by decide +kernel
theorem dX2_placeOf_6 : decode cX2_placeOf 6 = .ok (.iload_n 3, 1) := by decide +kernel
theorem dX2_placeOf_7 : decode cX2_placeOf 7 = .ok (.ifCond .le 38, 3) := by decide +kernel
theorem dX2_placeOf_10 : decode cX2_placeOf 10 = .ok (.iload_n 2, 1) := by decide +kernel
theorem dX2_placeOf_11 : decode cX2_placeOf 11 = .ok (.iload_n 3, 1) := by decide +kernel
theorem dX2_placeOf_12 : decode cX2_placeOf 12 = .ok (.iadd, 1) := by decide +kernel
theorem dX2_placeOf_13 : decode cX2_placeOf 13 = .ok (.aload_n 0, 1) := by decide +kernel
theorem dX2_placeOf_14 : decode cX2_placeOf 14 = .ok (.getfield 33, 3) := by decide +kernel
theorem dX2_placeOf_17 : decode cX2_placeOf 17 = .ok (.if_icmp .gt 21, 3) := by decide +kernel
theorem dX2_placeOf_20 : decode cX2_placeOf 20 = .ok (.aload_n 0, 1) := by decide +kernel
theorem dX2_placeOf_21 : decode cX2_placeOf 21 = .ok (.getfield 15, 3) := by decide +kernel
theorem dX2_placeOf_24 : decode cX2_placeOf 24 = .ok (.iload_n 2, 1) := by decide +kernel
theorem dX2_placeOf_25 : decode cX2_placeOf 25 = .ok (.iload_n 3, 1) := by decide +kernel
theorem dX2_placeOf_26 : decode cX2_placeOf 26 = .ok (.iadd, 1) := by decide +kernel
theorem dX2_placeOf_27 : decode cX2_placeOf 27 = .ok (.iconst 1, 1) := by decide +kernel
theorem dX2_placeOf_28 : decode cX2_placeOf 28 = .ok (.isub, 1) := by decide +kernel
theorem dX2_placeOf_29 : decode cX2_placeOf 29 = .ok (.iaload, 1) := by decide +kernel
theorem dX2_placeOf_30 : decode cX2_placeOf 30 = .ok (.iload_n 1, 1) := by decide +kernel
theorem dX2_placeOf_31 : decode cX2_placeOf 31 = .ok (.if_icmp .ge 7, 3) := by decide +kernel
theorem dX2_placeOf_34 : decode cX2_placeOf 34 = .ok (.iload_n 2, 1) := by decide +kernel
theorem dX2_placeOf_35 : decode cX2_placeOf 35 = .ok (.iload_n 3, 1) := by decide +kernel
theorem dX2_placeOf_36 : decode cX2_placeOf 36 = .ok (.iadd, 1) := by decide +kernel
theorem dX2_placeOf_37 : decode cX2_placeOf 37 = .ok (.istore_n 2, 1) := by decide +kernel
theorem dX2_placeOf_38 : decode cX2_placeOf 38 = .ok (.iload_n 3, 1) := by decide +kernel
theorem dX2_placeOf_39 : decode cX2_placeOf 39 = .ok (.iconst 2, 1) := by decide +kernel
theorem dX2_placeOf_40 : decode cX2_placeOf 40 = .ok (.idiv, 1) := by decide +kernel
theorem dX2_placeOf_41 : decode cX2_placeOf 41 = .ok (.istore_n 3, 1) := by decide +kernel
theorem dX2_placeOf_42 : decode cX2_placeOf 42 = .ok (.goto (-36), 3) := by decide +kernel
theorem dX2_placeOf_45 : decode cX2_placeOf 45 = .ok (.iload_n 2, 1) := by decide +kernel
theorem dX2_placeOf_46 : decode cX2_placeOf 46 = .ok (.ireturn, 1) := by decide +kernel
theorem dX2_take_0 : decode cX2_take 0 = .ok (.aload_n 0, 1) := by decide +kernel
theorem dX2_take_1 : decode cX2_take 1 = .ok (.getfield 37, 3) := by decide +kernel
theorem dX2_take_4 : decode cX2_take 4 = .ok (.ifCond .eq 4, 3) := by decide +kernel
theorem dX2_take_7 : decode cX2_take 7 = .ok (.return_, 1) := by decide +kernel
theorem dX2_take_8 : decode cX2_take 8 = .ok (.aload_n 0, 1) := by decide +kernel
theorem dX2_take_9 : decode cX2_take 9 = .ok (.iload_n 1, 1) := by decide +kernel
theorem dX2_take_10 : decode cX2_take 10 = .ok (.invokevirtual 25, 3) := by decide +kernel
theorem dX2_take_13 : decode cX2_take 13 = .ok (.istore 4, 2) := by decide +kernel
theorem dX2_take_15 : decode cX2_take 15 = .ok (.aload_n 0, 1) := by decide +kernel
theorem dX2_take_16 : decode cX2_take 16 = .ok (.iload 4, 2) := by decide +kernel
theorem dX2_take_18 : decode cX2_take 18 = .ok (.iload_n 1, 1) := by decide +kernel
theorem dX2_take_19 : decode cX2_take 19 = .ok (.invokevirtual 29, 3) := by decide +kernel
theorem dX2_take_22 : decode cX2_take 22 = .ok (.ifCond .eq 17, 3) := by decide +kernel
theorem dX2_take_25 : decode cX2_take 25 = .ok (.aload_n 0, 1) := by decide +kernel
theorem dX2_take_26 : decode cX2_take 26 = .ok (.getfield 21, 3) := by decide +kernel
theorem dX2_take_29 : decode cX2_take 29 = .ok (.iload 4, 2) := by decide +kernel
theorem dX2_take_31 : decode cX2_take 31 = .ok (.dup2, 1) := by decide +kernel
theorem dX2_take_32 : decode cX2_take 32 = .ok (.laload, 1) := by decide +kernel
theorem dX2_take_33 : decode cX2_take 33 = .ok (.lload_n 2, 1) := by decide +kernel
theorem dX2_take_34 : decode cX2_take 34 = .ok (.ladd, 1) := by decide +kernel
theorem dX2_take_35 : decode cX2_take 35 = .ok (.lastore, 1) := by decide +kernel
theorem dX2_take_36 : decode cX2_take 36 = .ok (.goto 97, 3) := by decide +kernel
theorem dX2_take_39 : decode cX2_take 39 = .ok (.aload_n 0, 1) := by decide +kernel
theorem dX2_take_40 : decode cX2_take 40 = .ok (.getfield 33, 3) := by decide +kernel
theorem dX2_take_43 : decode cX2_take 43 = .ok (.aload_n 0, 1) := by decide +kernel
theorem dX2_take_44 : decode cX2_take 44 = .ok (.getfield 15, 3) := by decide +kernel
theorem dX2_take_47 : decode cX2_take 47 = .ok (.arraylength, 1) := by decide +kernel
theorem dX2_take_48 : decode cX2_take 48 = .ok (.if_icmp .lt 11, 3) := by decide +kernel
theorem dX2_take_51 : decode cX2_take 51 = .ok (.aload_n 0, 1) := by decide +kernel
theorem dX2_take_52 : decode cX2_take 52 = .ok (.iconst 1, 1) := by decide +kernel
theorem dX2_take_53 : decode cX2_take 53 = .ok (.putfield 37, 3) := by decide +kernel
theorem dX2_take_56 : decode cX2_take 56 = .ok (.goto 77, 3) := by decide +kernel
theorem dX2_take_59 : decode cX2_take 59 = .ok (.aload_n 0, 1) := by decide +kernel
theorem dX2_take_60 : decode cX2_take 60 = .ok (.getfield 15, 3) := by decide +kernel
theorem dX2_take_63 : decode cX2_take 63 = .ok (.iload 4, 2) := by decide +kernel
theorem dX2_take_65 : decode cX2_take 65 = .ok (.aload_n 0, 1) := by decide +kernel
theorem dX2_take_66 : decode cX2_take 66 = .ok (.getfield 15, 3) := by decide +kernel
theorem dX2_take_69 : decode cX2_take 69 = .ok (.iload 4, 2) := by decide +kernel
theorem dX2_take_71 : decode cX2_take 71 = .ok (.iconst 1, 1) := by decide +kernel
theorem dX2_take_72 : decode cX2_take 72 = .ok (.iadd, 1) := by decide +kernel
theorem dX2_take_73 : decode cX2_take 73 = .ok (.aload_n 0, 1) := by decide +kernel
theorem dX2_take_74 : decode cX2_take 74 = .ok (.getfield 33, 3) := by decide +kernel
theorem dX2_take_77 : decode cX2_take 77 = .ok (.iload 4, 2) := by decide +kernel
theorem dX2_take_79 : decode cX2_take 79 = .ok (.isub, 1) := by decide +kernel
theorem dX2_take_80 : decode cX2_take 80 = .ok (.invokestatic 41, 3) := by decide +kernel
theorem dX2_take_83 : decode cX2_take 83 = .ok (.aload_n 0, 1) := by decide +kernel
theorem dX2_take_84 : decode cX2_take 84 = .ok (.getfield 21, 3) := by decide +kernel
theorem dX2_take_87 : decode cX2_take 87 = .ok (.iload 4, 2) := by decide +kernel
theorem dX2_take_89 : decode cX2_take 89 = .ok (.aload_n 0, 1) := by decide +kernel
theorem dX2_take_90 : decode cX2_take 90 = .ok (.getfield 21, 3) := by decide +kernel
theorem dX2_take_93 : decode cX2_take 93 = .ok (.iload 4, 2) := by decide +kernel
theorem dX2_take_95 : decode cX2_take 95 = .ok (.iconst 1, 1) := by decide +kernel
theorem dX2_take_96 : decode cX2_take 96 = .ok (.iadd, 1) := by decide +kernel
theorem dX2_take_97 : decode cX2_take 97 = .ok (.aload_n 0, 1) := by decide +kernel
theorem dX2_take_98 : decode cX2_take 98 = .ok (.getfield 33, 3) := by decide +kernel
theorem dX2_take_101 : decode cX2_take 101 = .ok (.iload 4, 2) := by decide +kernel
theorem dX2_take_103 : decode cX2_take 103 = .ok (.isub, 1) := by decide +kernel
theorem dX2_take_104 : decode cX2_take 104 = .ok (.invokestatic 41, 3) := by decide +kernel
theorem dX2_take_107 : decode cX2_take 107 = .ok (.aload_n 0, 1) := by decide +kernel
theorem dX2_take_108 : decode cX2_take 108 = .ok (.getfield 15, 3) := by decide +kernel
theorem dX2_take_111 : decode cX2_take 111 = .ok (.iload 4, 2) := by decide +kernel
theorem dX2_take_113 : decode cX2_take 113 = .ok (.iload_n 1, 1) := by decide +kernel
theorem dX2_take_114 : decode cX2_take 114 = .ok (.iastore, 1) := by decide +kernel
theorem dX2_take_115 : decode cX2_take 115 = .ok (.aload_n 0, 1) := by decide +kernel
theorem dX2_take_116 : decode cX2_take 116 = .ok (.getfield 21, 3) := by decide +kernel
theorem dX2_take_119 : decode cX2_take 119 = .ok (.iload 4, 2) := by decide +kernel
theorem dX2_take_121 : decode cX2_take 121 = .ok (.lload_n 2, 1) := by decide +kernel
theorem dX2_take_122 : decode cX2_take 122 = .ok (.lastore, 1) := by decide +kernel
theorem dX2_take_123 : decode cX2_take 123 = .ok (.aload_n 0, 1) := by decide +kernel
theorem dX2_take_124 : decode cX2_take 124 = .ok (.dup, 1) := by decide +kernel
theorem dX2_take_125 : decode cX2_take 125 = .ok (.getfield 33, 3) := by decide +kernel
theorem dX2_take_128 : decode cX2_take 128 = .ok (.iconst 1, 1) := by decide +kernel
theorem dX2_take_129 : decode cX2_take 129 = .ok (.iadd, 1) := by decide +kernel
theorem dX2_take_130 : decode cX2_take 130 = .ok (.putfield 33, 3) := by decide +kernel
theorem dX2_take_133 : decode cX2_take 133 = .ok (.return_, 1) := by decide +kernel
theorem dX2_together_0 : decode cX2_together 0 = .ok (.lconst 0, 1) := by decide +kernel
theorem dX2_together_1 : decode cX2_together 1 = .ok (.lstore_n 1, 1) := by decide +kernel
theorem dX2_together_2 : decode cX2_together 2 = .ok (.iconst 0, 1) := by decide +kernel
theorem dX2_together_3 : decode cX2_together 3 = .ok (.istore_n 3, 1) := by decide +kernel
theorem dX2_together_4 : decode cX2_together 4 = .ok (.iload_n 3, 1) := by decide +kernel
theorem dX2_together_5 : decode cX2_together 5 = .ok (.aload_n 0, 1) := by decide +kernel
theorem dX2_together_6 : decode cX2_together 6 = .ok (.getfield 33, 3) := by decide +kernel
theorem dX2_together_9 : decode cX2_together 9 = .ok (.if_icmp .ge 18, 3) := by decide +kernel
theorem dX2_together_12 : decode cX2_together 12 = .ok (.lload_n 1, 1) := by decide +kernel
theorem dX2_together_13 : decode cX2_together 13 = .ok (.aload_n 0, 1) := by decide +kernel
theorem dX2_together_14 : decode cX2_together 14 = .ok (.getfield 21, 3) := by decide +kernel
theorem dX2_together_17 : decode cX2_together 17 = .ok (.iload_n 3, 1) := by decide +kernel
theorem dX2_together_18 : decode cX2_together 18 = .ok (.laload, 1) := by decide +kernel
theorem dX2_together_19 : decode cX2_together 19 = .ok (.ladd, 1) := by decide +kernel
theorem dX2_together_20 : decode cX2_together 20 = .ok (.lstore_n 1, 1) := by decide +kernel
theorem dX2_together_21 : decode cX2_together 21 = .ok (.iinc 3 1, 3) := by decide +kernel
theorem dX2_together_24 : decode cX2_together 24 = .ok (.goto (-20), 3) := by decide +kernel
theorem dX2_together_27 : decode cX2_together 27 = .ok (.lload_n 1, 1) := by decide +kernel
theorem dX2_together_28 : decode cX2_together 28 = .ok (.lreturn, 1) := by decide +kernel
theorem dX2_makeEmpty_0 : decode cX2_makeEmpty 0 = .ok (.aload_n 0, 1) := by decide +kernel
theorem dX2_makeEmpty_1 : decode cX2_makeEmpty 1 = .ok (.iconst 0, 1) := by decide +kernel
theorem dX2_makeEmpty_2 : decode cX2_makeEmpty 2 = .ok (.putfield 33, 3) := by decide +kernel
theorem dX2_makeEmpty_5 : decode cX2_makeEmpty 5 = .ok (.aload_n 0, 1) := by decide +kernel
theorem dX2_makeEmpty_6 : decode cX2_makeEmpty 6 = .ok (.iconst 0, 1) := by decide +kernel
theorem dX2_makeEmpty_7 : decode cX2_makeEmpty 7 = .ok (.putfield 37, 3) := by decide +kernel
theorem dX2_makeEmpty_10 : decode cX2_makeEmpty 10 = .ok (.return_, 1) := by decide +kernel
theorem dX2_become_0 : decode cX2_become 0 = .ok (.aload_n 1, 1) := by decide +kernel
theorem dX2_become_1 : decode cX2_become 1 = .ok (.getfield 15, 3) := by decide +kernel
theorem dX2_become_4 : decode cX2_become 4 = .ok (.iconst 0, 1) := by decide +kernel
theorem dX2_become_5 : decode cX2_become 5 = .ok (.aload_n 0, 1) := by decide +kernel
theorem dX2_become_6 : decode cX2_become 6 = .ok (.getfield 15, 3) := by decide +kernel
theorem dX2_become_9 : decode cX2_become 9 = .ok (.iconst 0, 1) := by decide +kernel
theorem dX2_become_10 : decode cX2_become 10 = .ok (.aload_n 1, 1) := by decide +kernel
theorem dX2_become_11 : decode cX2_become 11 = .ok (.getfield 33, 3) := by decide +kernel
theorem dX2_become_14 : decode cX2_become 14 = .ok (.invokestatic 41, 3) := by decide +kernel
theorem dX2_become_17 : decode cX2_become 17 = .ok (.aload_n 1, 1) := by decide +kernel
theorem dX2_become_18 : decode cX2_become 18 = .ok (.getfield 21, 3) := by decide +kernel
theorem dX2_become_21 : decode cX2_become 21 = .ok (.iconst 0, 1) := by decide +kernel
theorem dX2_become_22 : decode cX2_become 22 = .ok (.aload_n 0, 1) := by decide +kernel
theorem dX2_become_23 : decode cX2_become 23 = .ok (.getfield 21, 3) := by decide +kernel
theorem dX2_become_26 : decode cX2_become 26 = .ok (.iconst 0, 1) := by decide +kernel
theorem dX2_become_27 : decode cX2_become 27 = .ok (.aload_n 1, 1) := by decide +kernel
theorem dX2_become_28 : decode cX2_become 28 = .ok (.getfield 33, 3) := by decide +kernel
theorem dX2_become_31 : decode cX2_become 31 = .ok (.invokestatic 41, 3) := by decide +kernel
theorem dX2_become_34 : decode cX2_become 34 = .ok (.aload_n 0, 1) := by decide +kernel
theorem dX2_become_35 : decode cX2_become 35 = .ok (.aload_n 1, 1) := by decide +kernel
theorem dX2_become_36 : decode cX2_become 36 = .ok (.getfield 33, 3) := by decide +kernel
theorem dX2_become_39 : decode cX2_become 39 = .ok (.putfield 33, 3) := by decide +kernel
theorem dX2_become_42 : decode cX2_become 42 = .ok (.aload_n 0, 1) := by decide +kernel
theorem dX2_become_43 : decode cX2_become 43 = .ok (.aload_n 1, 1) := by decide +kernel
theorem dX2_become_44 : decode cX2_become 44 = .ok (.getfield 37, 3) := by decide +kernel
theorem dX2_become_47 : decode cX2_become 47 = .ok (.putfield 37, 3) := by decide +kernel
theorem dX2_become_50 : decode cX2_become 50 = .ok (.return_, 1) := by decide +kernel
theorem dX2_putTogether_0 : decode cX2_putTogether 0 = .ok (.aload_n 0, 1) := by decide +kernel
theorem dX2_putTogether_1 : decode cX2_putTogether 1 = .ok (.aload_n 0, 1) := by decide +kernel
theorem dX2_putTogether_2 : decode cX2_putTogether 2 = .ok (.getfield 37, 3) := by decide +kernel
theorem dX2_putTogether_5 : decode cX2_putTogether 5 = .ok (.ifCond .ne 10, 3) := by decide +kernel
theorem dX2_putTogether_8 : decode cX2_putTogether 8 = .ok (.aload_n 1, 1) := by decide +kernel
theorem dX2_putTogether_9 : decode cX2_putTogether 9 = .ok (.getfield 37, 3) := by decide +kernel
theorem dX2_putTogether_12 : decode cX2_putTogether 12 = .ok (.ifCond .eq 7, 3) := by decide +kernel
theorem dX2_putTogether_15 : decode cX2_putTogether 15 = .ok (.iconst 1, 1) := by decide +kernel
theorem dX2_putTogether_16 : decode cX2_putTogether 16 = .ok (.goto 4, 3) := by decide +kernel
theorem dX2_putTogether_19 : decode cX2_putTogether 19 = .ok (.iconst 0, 1) := by decide +kernel
theorem dX2_putTogether_20 : decode cX2_putTogether 20 = .ok (.putfield 37, 3) := by decide +kernel
theorem dX2_putTogether_23 : decode cX2_putTogether 23 = .ok (.aload_n 1, 1) := by decide +kernel
theorem dX2_putTogether_24 : decode cX2_putTogether 24 = .ok (.getfield 33, 3) := by decide +kernel
theorem dX2_putTogether_27 : decode cX2_putTogether 27 = .ok (.istore_n 2, 1) := by decide +kernel
theorem dX2_putTogether_28 : decode cX2_putTogether 28 = .ok (.iconst 0, 1) := by decide +kernel
theorem dX2_putTogether_29 : decode cX2_putTogether 29 = .ok (.istore_n 3, 1) := by decide +kernel
theorem dX2_putTogether_30 : decode cX2_putTogether 30 = .ok (.iload_n 3, 1) := by decide +kernel
theorem dX2_putTogether_31 : decode cX2_putTogether 31 = .ok (.iload_n 2, 1) := by decide +kernel
theorem dX2_putTogether_32 : decode cX2_putTogether 32 = .ok (.if_icmp .ge 25, 3) := by decide +kernel
theorem dX2_putTogether_35 : decode cX2_putTogether 35 = .ok (.aload_n 0, 1) := by decide +kernel
theorem dX2_putTogether_36 : decode cX2_putTogether 36 = .ok (.aload_n 1, 1) := by decide +kernel
theorem dX2_putTogether_37 : decode cX2_putTogether 37 = .ok (.getfield 15, 3) := by decide +kernel
theorem dX2_putTogether_40 : decode cX2_putTogether 40 = .ok (.iload_n 3, 1) := by decide +kernel
theorem dX2_putTogether_41 : decode cX2_putTogether 41 = .ok (.iaload, 1) := by decide +kernel
theorem dX2_putTogether_42 : decode cX2_putTogether 42 = .ok (.aload_n 1, 1) := by decide +kernel
theorem dX2_putTogether_43 : decode cX2_putTogether 43 = .ok (.getfield 21, 3) := by decide +kernel
theorem dX2_putTogether_46 : decode cX2_putTogether 46 = .ok (.iload_n 3, 1) := by decide +kernel
theorem dX2_putTogether_47 : decode cX2_putTogether 47 = .ok (.laload, 1) := by decide +kernel
theorem dX2_putTogether_48 : decode cX2_putTogether 48 = .ok (.invokevirtual 47, 3) := by decide +kernel
theorem dX2_putTogether_51 : decode cX2_putTogether 51 = .ok (.iinc 3 1, 3) := by decide +kernel
theorem dX2_putTogether_54 : decode cX2_putTogether 54 = .ok (.goto (-24), 3) := by decide +kernel
theorem dX2_putTogether_57 : decode cX2_putTogether 57 = .ok (.return_, 1) := by decide +kernel
theorem dX3_init_0 : decode cX3_init 0 = .ok (.aload_n 0, 1) := by decide +kernel
theorem dX3_init_1 : decode cX3_init 1 = .ok (.invokespecial 1, 3) := by decide +kernel
theorem dX3_init_4 : decode cX3_init 4 = .ok (.aload_n 0, 1) := by decide +kernel
theorem dX3_init_5 : decode cX3_init 5 = .ok (.iload_n 1, 1) := by decide +kernel
theorem dX3_init_6 : decode cX3_init 6 = .ok (.putfield 7, 3) := by decide +kernel
theorem dX3_init_9 : decode cX3_init 9 = .ok (.aload_n 0, 1) := by decide +kernel
theorem dX3_init_10 : decode cX3_init 10 = .ok (.iload_n 2, 1) := by decide +kernel
theorem dX3_init_11 : decode cX3_init 11 = .ok (.putfield 13, 3) := by decide +kernel
theorem dX3_init_14 : decode cX3_init 14 = .ok (.aload_n 0, 1) := by decide +kernel
theorem dX3_init_15 : decode cX3_init 15 = .ok (.iload_n 3, 1) := by decide +kernel
theorem dX3_init_16 : decode cX3_init 16 = .ok (.putfield 16, 3) := by decide +kernel
theorem dX3_init_19 : decode cX3_init 19 = .ok (.aload_n 0, 1) := by decide +kernel
theorem dX3_init_20 : decode cX3_init 20 = .ok (.iload_n 3, 1) := by decide +kernel
theorem dX3_init_21 : decode cX3_init 21 = .ok (.newarray .int, 2) := by decide +kernel
theorem dX3_init_23 : decode cX3_init 23 = .ok (.putfield 19, 3) := by decide +kernel
theorem dX3_init_26 : decode cX3_init 26 = .ok (.aload_n 0, 1) := by decide +kernel
theorem dX3_init_27 : decode cX3_init 27 = .ok (.iload_n 3, 1) := by decide +kernel
theorem dX3_init_28 : decode cX3_init 28 = .ok (.newarray .int, 2) := by decide +kernel
theorem dX3_init_30 : decode cX3_init 30 = .ok (.putfield 23, 3) := by decide +kernel
theorem dX3_init_33 : decode cX3_init 33 = .ok (.iconst 0, 1) := by decide +kernel
theorem dX3_init_34 : decode cX3_init 34 = .ok (.istore 4, 2) := by decide +kernel
theorem dX3_init_36 : decode cX3_init 36 = .ok (.iload 4, 2) := by decide +kernel
theorem dX3_init_38 : decode cX3_init 38 = .ok (.iload_n 3, 1) := by decide +kernel
theorem dX3_init_39 : decode cX3_init 39 = .ok (.if_icmp .ge 47, 3) := by decide +kernel
theorem dX3_init_42 : decode cX3_init 42 = .ok (.aload_n 0, 1) := by decide +kernel
theorem dX3_init_43 : decode cX3_init 43 = .ok (.getfield 19, 3) := by decide +kernel
theorem dX3_init_46 : decode cX3_init 46 = .ok (.iload 4, 2) := by decide +kernel
theorem dX3_init_48 : decode cX3_init 48 = .ok (.iconst 1, 1) := by decide +kernel
theorem dX3_init_49 : decode cX3_init 49 = .ok (.sipush 7919, 3) := by decide +kernel
theorem dX3_init_52 : decode cX3_init 52 = .ok (.iload 4, 2) := by decide +kernel
theorem dX3_init_54 : decode cX3_init 54 = .ok (.imul, 1) := by decide +kernel
theorem dX3_init_55 : decode cX3_init 55 = .ok (.bipush 13, 2) := by decide +kernel
theorem dX3_init_57 : decode cX3_init 57 = .ok (.iadd, 1) := by decide +kernel
theorem dX3_init_58 : decode cX3_init 58 = .ok (.iload_n 1, 1) := by decide +kernel
theorem dX3_init_59 : decode cX3_init 59 = .ok (.iconst 1, 1) := by decide +kernel
theorem dX3_init_60 : decode cX3_init 60 = .ok (.isub, 1) := by decide +kernel
theorem dX3_init_61 : decode cX3_init 61 = .ok (.irem, 1) := by decide +kernel
theorem dX3_init_62 : decode cX3_init 62 = .ok (.iadd, 1) := by decide +kernel
theorem dX3_init_63 : decode cX3_init 63 = .ok (.iastore, 1) := by decide +kernel
theorem dX3_init_64 : decode cX3_init 64 = .ok (.aload_n 0, 1) := by decide +kernel
theorem dX3_init_65 : decode cX3_init 65 = .ok (.getfield 23, 3) := by decide +kernel
theorem dX3_init_68 : decode cX3_init 68 = .ok (.iload 4, 2) := by decide +kernel
theorem dX3_init_70 : decode cX3_init 70 = .ok (.ldc 26, 2) := by decide +kernel
theorem dX3_init_72 : decode cX3_init 72 = .ok (.iload 4, 2) := by decide +kernel
theorem dX3_init_74 : decode cX3_init 74 = .ok (.imul, 1) := by decide +kernel
theorem dX3_init_75 : decode cX3_init 75 = .ok (.iconst 5, 1) := by decide +kernel
theorem dX3_init_76 : decode cX3_init 76 = .ok (.iadd, 1) := by decide +kernel
theorem dX3_init_77 : decode cX3_init 77 = .ok (.iload_n 1, 1) := by decide +kernel
theorem dX3_init_78 : decode cX3_init 78 = .ok (.irem, 1) := by decide +kernel
theorem dX3_init_79 : decode cX3_init 79 = .ok (.iastore, 1) := by decide +kernel
theorem dX3_init_80 : decode cX3_init 80 = .ok (.iinc 4 1, 3) := by decide +kernel
theorem dX3_init_83 : decode cX3_init 83 = .ok (.goto (-47), 3) := by decide +kernel
theorem dX3_init_86 : decode cX3_init 86 = .ok (.return_, 1) := by decide +kernel
theorem dX3_isRow_0 : decode cX3_isRow 0 = .ok (.iload_n 1, 1) := by decide +kernel
theorem dX3_isRow_1 : decode cX3_isRow 1 = .ok (.ifCond .lt 15, 3) := by decide +kernel
theorem dX3_isRow_4 : decode cX3_isRow 4 = .ok (.iload_n 1, 1) := by decide +kernel
theorem dX3_isRow_5 : decode cX3_isRow 5 = .ok (.aload_n 0, 1) := by decide +kernel
theorem dX3_isRow_6 : decode cX3_isRow 6 = .ok (.getfield 16, 3) := by decide +kernel
theorem dX3_isRow_9 : decode cX3_isRow 9 = .ok (.if_icmp .ge 7, 3) := by decide +kernel
theorem dX3_isRow_12 : decode cX3_isRow 12 = .ok (.iconst 1, 1) := by decide +kernel
theorem dX3_isRow_13 : decode cX3_isRow 13 = .ok (.goto 4, 3) := by decide +kernel
theorem dX3_isRow_16 : decode cX3_isRow 16 = .ok (.iconst 0, 1) := by decide +kernel
theorem dX3_isRow_17 : decode cX3_isRow 17 = .ok (.ireturn, 1) := by decide +kernel
theorem dX3_isKey_0 : decode cX3_isKey 0 = .ok (.iload_n 1, 1) := by decide +kernel
theorem dX3_isKey_1 : decode cX3_isKey 1 = .ok (.ifCond .lt 15, 3) := by decide +kernel
theorem dX3_isKey_4 : decode cX3_isKey 4 = .ok (.iload_n 1, 1) := by decide +kernel
theorem dX3_isKey_5 : decode cX3_isKey 5 = .ok (.aload_n 0, 1) := by decide +kernel
theorem dX3_isKey_6 : decode cX3_isKey 6 = .ok (.getfield 7, 3) := by decide +kernel
theorem dX3_isKey_9 : decode cX3_isKey 9 = .ok (.if_icmp .ge 7, 3) := by decide +kernel
theorem dX3_isKey_12 : decode cX3_isKey 12 = .ok (.iconst 1, 1) := by decide +kernel
theorem dX3_isKey_13 : decode cX3_isKey 13 = .ok (.goto 4, 3) := by decide +kernel
theorem dX3_isKey_16 : decode cX3_isKey 16 = .ok (.iconst 0, 1) := by decide +kernel
theorem dX3_isKey_17 : decode cX3_isKey 17 = .ok (.ireturn, 1) := by decide +kernel
theorem dX3_isPair_0 : decode cX3_isPair 0 = .ok (.iload_n 1, 1) := by decide +kernel
theorem dX3_isPair_1 : decode cX3_isPair 1 = .ok (.iconst 1, 1) := by decide +kernel
theorem dX3_isPair_2 : decode cX3_isPair 2 = .ok (.if_icmp .lt 27, 3) := by decide +kernel
theorem dX3_isPair_5 : decode cX3_isPair 5 = .ok (.iload_n 1, 1) := by decide +kernel
theorem dX3_isPair_6 : decode cX3_isPair 6 = .ok (.aload_n 0, 1) := by decide +kernel
theorem dX3_isPair_7 : decode cX3_isPair 7 = .ok (.getfield 7, 3) := by decide +kernel
theorem dX3_isPair_10 : decode cX3_isPair 10 = .ok (.if_icmp .ge 19, 3) := by decide +kernel
theorem dX3_isPair_13 : decode cX3_isPair 13 = .ok (.iload_n 2, 1) := by decide +kernel
theorem dX3_isPair_14 : decode cX3_isPair 14 = .ok (.ifCond .lt 15, 3) := by decide +kernel
theorem dX3_isPair_17 : decode cX3_isPair 17 = .ok (.iload_n 2, 1) := by decide +kernel
theorem dX3_isPair_18 : decode cX3_isPair 18 = .ok (.aload_n 0, 1) := by decide +kernel
theorem dX3_isPair_19 : decode cX3_isPair 19 = .ok (.getfield 7, 3) := by decide +kernel
theorem dX3_isPair_22 : decode cX3_isPair 22 = .ok (.if_icmp .ge 7, 3) := by decide +kernel
theorem dX3_isPair_25 : decode cX3_isPair 25 = .ok (.iconst 1, 1) := by decide +kernel
theorem dX3_isPair_26 : decode cX3_isPair 26 = .ok (.goto 4, 3) := by decide +kernel
theorem dX3_isPair_29 : decode cX3_isPair 29 = .ok (.iconst 0, 1) := by decide +kernel
theorem dX3_isPair_30 : decode cX3_isPair 30 = .ok (.ireturn, 1) := by decide +kernel
theorem dX3_setPair_0 : decode cX3_setPair 0 = .ok (.aload_n 0, 1) := by decide +kernel
theorem dX3_setPair_1 : decode cX3_setPair 1 = .ok (.getfield 19, 3) := by decide +kernel
theorem dX3_setPair_4 : decode cX3_setPair 4 = .ok (.iload_n 1, 1) := by decide +kernel
theorem dX3_setPair_5 : decode cX3_setPair 5 = .ok (.iload_n 2, 1) := by decide +kernel
theorem dX3_setPair_6 : decode cX3_setPair 6 = .ok (.iastore, 1) := by decide +kernel
theorem dX3_setPair_7 : decode cX3_setPair 7 = .ok (.aload_n 0, 1) := by decide +kernel
theorem dX3_setPair_8 : decode cX3_setPair 8 = .ok (.getfield 23, 3) := by decide +kernel
theorem dX3_setPair_11 : decode cX3_setPair 11 = .ok (.iload_n 1, 1) := by decide +kernel
theorem dX3_setPair_12 : decode cX3_setPair 12 = .ok (.iload_n 3, 1) := by decide +kernel
theorem dX3_setPair_13 : decode cX3_setPair 13 = .ok (.iastore, 1) := by decide +kernel
theorem dX3_setPair_14 : decode cX3_setPair 14 = .ok (.return_, 1) := by decide +kernel
theorem dX3_column_0 : decode cX3_column 0 = .ok (.aload_n 0, 1) := by decide +kernel
theorem dX3_column_1 : decode cX3_column 1 = .ok (.getfield 19, 3) := by decide +kernel
theorem dX3_column_4 : decode cX3_column 4 = .ok (.iload_n 1, 1) := by decide +kernel
theorem dX3_column_5 : decode cX3_column 5 = .ok (.iaload, 1) := by decide +kernel
theorem dX3_column_6 : decode cX3_column 6 = .ok (.i2l, 1) := by decide +kernel
theorem dX3_column_7 : decode cX3_column 7 = .ok (.iload_n 2, 1) := by decide +kernel
theorem dX3_column_8 : decode cX3_column 8 = .ok (.i2l, 1) := by decide +kernel
theorem dX3_column_9 : decode cX3_column 9 = .ok (.lmul, 1) := by decide +kernel
theorem dX3_column_10 : decode cX3_column 10 = .ok (.aload_n 0, 1) := by decide +kernel
theorem dX3_column_11 : decode cX3_column 11 = .ok (.getfield 23, 3) := by decide +kernel
theorem dX3_column_14 : decode cX3_column 14 = .ok (.iload_n 1, 1) := by decide +kernel
theorem dX3_column_15 : decode cX3_column 15 = .ok (.iaload, 1) := by decide +kernel
theorem dX3_column_16 : decode cX3_column 16 = .ok (.i2l, 1) := by decide +kernel
theorem dX3_column_17 : decode cX3_column 17 = .ok (.ladd, 1) := by decide +kernel
theorem dX3_column_18 : decode cX3_column 18 = .ok (.lstore_n 3, 1) := by decide +kernel
theorem dX3_column_19 : decode cX3_column 19 = .ok (.lload_n 3, 1) := by decide +kernel
theorem dX3_column_20 : decode cX3_column 20 = .ok (.aload_n 0, 1) := by decide +kernel
theorem dX3_column_21 : decode cX3_column 21 = .ok (.getfield 7, 3) := by decide +kernel
theorem dX3_column_24 : decode cX3_column 24 = .ok (.i2l, 1) := by decide +kernel
theorem dX3_column_25 : decode cX3_column 25 = .ok (.lrem, 1) := by decide +kernel
theorem dX3_column_26 : decode cX3_column 26 = .ok (.l2i, 1) := by decide +kernel
theorem dX3_column_27 : decode cX3_column 27 = .ok (.aload_n 0, 1) := by decide +kernel
theorem dX3_column_28 : decode cX3_column 28 = .ok (.getfield 13, 3) := by decide +kernel
theorem dX3_column_31 : decode cX3_column 31 = .ok (.irem, 1) := by decide +kernel
theorem dX3_column_32 : decode cX3_column 32 = .ok (.ireturn, 1) := by decide +kernel
theorem dX3_pairsThatMeet_0 : decode cX3_pairsThatMeet 0 = .ok (.aload_n 0, 1) := by decide +kernel
theorem dX3_pairsThatMeet_1 : decode cX3_pairsThatMeet 1 = .ok (.getfield 7, 3) := by decide +kernel
theorem dX3_pairsThatMeet_4 : decode cX3_pairsThatMeet 4 = .ok (.aload_n 0, 1) := by decide +kernel
theorem dX3_pairsThatMeet_5 : decode cX3_pairsThatMeet 5 = .ok (.getfield 13, 3) := by decide +kernel
theorem dX3_pairsThatMeet_8 : decode cX3_pairsThatMeet 8 = .ok (.idiv, 1) := by decide +kernel
theorem dX3_pairsThatMeet_9 : decode cX3_pairsThatMeet 9 = .ok (.i2l, 1) := by decide +kernel
theorem dX3_pairsThatMeet_10 : decode cX3_pairsThatMeet 10 = .ok (.lstore_n 1, 1) := by decide +kernel
theorem dX3_pairsThatMeet_11 : decode cX3_pairsThatMeet 11 = .ok (.aload_n 0, 1) := by decide +kernel
theorem dX3_pairsThatMeet_12 : decode cX3_pairsThatMeet 12 = .ok (.getfield 7, 3) := by decide +kernel
theorem dX3_pairsThatMeet_15 : decode cX3_pairsThatMeet 15 = .ok (.aload_n 0, 1) := by decide +kernel
theorem dX3_pairsThatMeet_16 : decode cX3_pairsThatMeet 16 = .ok (.getfield 13, 3) := by decide +kernel
theorem dX3_pairsThatMeet_19 : decode cX3_pairsThatMeet 19 = .ok (.irem, 1) := by decide +kernel
theorem dX3_pairsThatMeet_20 : decode cX3_pairsThatMeet 20 = .ok (.i2l, 1) := by decide +kernel
theorem dX3_pairsThatMeet_21 : decode cX3_pairsThatMeet 21 = .ok (.lstore_n 3, 1) := by decide +kernel
theorem dX3_pairsThatMeet_22 : decode cX3_pairsThatMeet 22 = .ok (.lload_n 3, 1) := by decide +kernel
theorem dX3_pairsThatMeet_23 : decode cX3_pairsThatMeet 23 = .ok (.lload_n 1, 1) := by decide +kernel
theorem dX3_pairsThatMeet_24 : decode cX3_pairsThatMeet 24 = .ok (.lconst 1, 1) := by decide +kernel
theorem dX3_pairsThatMeet_25 : decode cX3_pairsThatMeet 25 = .ok (.ladd, 1) := by decide +kernel
theorem dX3_pairsThatMeet_26 : decode cX3_pairsThatMeet 26 = .ok (.lmul, 1) := by decide +kernel
theorem dX3_pairsThatMeet_27 : decode cX3_pairsThatMeet 27 = .ok (.lload_n 1, 1) := by decide +kernel
theorem dX3_pairsThatMeet_28 : decode cX3_pairsThatMeet 28 = .ok (.lmul, 1) := by decide +kernel
theorem dX3_pairsThatMeet_29 : decode cX3_pairsThatMeet 29 = .ok (.aload_n 0, 1) := by decide +kernel
theorem dX3_pairsThatMeet_30 : decode cX3_pairsThatMeet 30 = .ok (.getfield 13, 3) := by decide +kernel
theorem dX3_pairsThatMeet_33 : decode cX3_pairsThatMeet 33 = .ok (.i2l, 1) := by decide +kernel
theorem dX3_pairsThatMeet_34 : decode cX3_pairsThatMeet 34 = .ok (.lload_n 3, 1) := by decide +kernel
theorem dX3_pairsThatMeet_35 : decode cX3_pairsThatMeet 35 = .ok (.lsub, 1) := by decide +kernel
theorem dX3_pairsThatMeet_36 : decode cX3_pairsThatMeet 36 = .ok (.lload_n 1, 1) := by decide +kernel
theorem dX3_pairsThatMeet_37 : decode cX3_pairsThatMeet 37 = .ok (.lmul, 1) := by decide +kernel
theorem dX3_pairsThatMeet_38 : decode cX3_pairsThatMeet 38 = .ok (.lload_n 1, 1) := by decide +kernel
theorem dX3_pairsThatMeet_39 : decode cX3_pairsThatMeet 39 = .ok (.lconst 1, 1) := by decide +kernel
theorem dX3_pairsThatMeet_40 : decode cX3_pairsThatMeet 40 = .ok (.lsub, 1) := by decide +kernel
theorem dX3_pairsThatMeet_41 : decode cX3_pairsThatMeet 41 = .ok (.lmul, 1) := by decide +kernel
theorem dX3_pairsThatMeet_42 : decode cX3_pairsThatMeet 42 = .ok (.ladd, 1) := by decide +kernel
theorem dX3_pairsThatMeet_43 : decode cX3_pairsThatMeet 43 = .ok (.lreturn, 1) := by decide +kernel
theorem dX4_init_0 : decode cX4_init 0 = .ok (.aload_n 0, 1) := by decide +kernel
theorem dX4_init_1 : decode cX4_init 1 = .ok (.invokespecial 1, 3) := by decide +kernel
theorem dX4_init_4 : decode cX4_init 4 = .ok (.aload_n 0, 1) := by decide +kernel
theorem dX4_init_5 : decode cX4_init 5 = .ok (.aload_n 1, 1) := by decide +kernel
theorem dX4_init_6 : decode cX4_init 6 = .ok (.putfield 7, 3) := by decide +kernel
theorem dX4_init_9 : decode cX4_init 9 = .ok (.aload_n 0, 1) := by decide +kernel
theorem dX4_init_10 : decode cX4_init 10 = .ok (.iload_n 2, 1) := by decide +kernel
theorem dX4_init_11 : decode cX4_init 11 = .ok (.putfield 13, 3) := by decide +kernel
theorem dX4_init_14 : decode cX4_init 14 = .ok (.aload_n 0, 1) := by decide +kernel
theorem dX4_init_15 : decode cX4_init 15 = .ok (.aload_n 1, 1) := by decide +kernel
theorem dX4_init_16 : decode cX4_init 16 = .ok (.getfield 17, 3) := by decide +kernel
theorem dX4_init_19 : decode cX4_init 19 = .ok (.aload_n 1, 1) := by decide +kernel
theorem dX4_init_20 : decode cX4_init 20 = .ok (.getfield 23, 3) := by decide +kernel
theorem dX4_init_23 : decode cX4_init 23 = .ok (.imul, 1) := by decide +kernel
theorem dX4_init_24 : decode cX4_init 24 = .ok (.newarray .long, 2) := by decide +kernel
theorem dX4_init_26 : decode cX4_init 26 = .ok (.putfield 26, 3) := by decide +kernel
theorem dX4_init_29 : decode cX4_init 29 = .ok (.return_, 1) := by decide +kernel
theorem dX4_guess_0 : decode cX4_guess 0 = .ok (.aload_n 0, 1) := by decide +kernel
theorem dX4_guess_1 : decode cX4_guess 1 = .ok (.iconst 0, 1) := by decide +kernel
theorem dX4_guess_2 : decode cX4_guess 2 = .ok (.aload_n 0, 1) := by decide +kernel
theorem dX4_guess_3 : decode cX4_guess 3 = .ok (.getfield 7, 3) := by decide +kernel
theorem dX4_guess_6 : decode cX4_guess 6 = .ok (.iconst 0, 1) := by decide +kernel
theorem dX4_guess_7 : decode cX4_guess 7 = .ok (.iload_n 1, 1) := by decide +kernel
theorem dX4_guess_8 : decode cX4_guess 8 = .ok (.invokevirtual 30, 3) := by decide +kernel
theorem dX4_guess_11 : decode cX4_guess 11 = .ok (.invokevirtual 34, 3) := by decide +kernel
theorem dX4_guess_14 : decode cX4_guess 14 = .ok (.lstore_n 2, 1) := by decide +kernel
theorem dX4_guess_15 : decode cX4_guess 15 = .ok (.iconst 1, 1) := by decide +kernel
theorem dX4_guess_16 : decode cX4_guess 16 = .ok (.istore 4, 2) := by decide +kernel
theorem dX4_guess_18 : decode cX4_guess 18 = .ok (.iload 4, 2) := by decide +kernel
theorem dX4_guess_20 : decode cX4_guess 20 = .ok (.aload_n 0, 1) := by decide +kernel
theorem dX4_guess_21 : decode cX4_guess 21 = .ok (.getfield 7, 3) := by decide +kernel
theorem dX4_guess_24 : decode cX4_guess 24 = .ok (.getfield 17, 3) := by decide +kernel
theorem dX4_guess_27 : decode cX4_guess 27 = .ok (.if_icmp .ge 36, 3) := by decide +kernel
theorem dX4_guess_30 : decode cX4_guess 30 = .ok (.lload_n 2, 1) := by decide +kernel
theorem dX4_guess_31 : decode cX4_guess 31 = .ok (.lconst 0, 1) := by decide +kernel
theorem dX4_guess_32 : decode cX4_guess 32 = .ok (.lcmp, 1) := by decide +kernel
theorem dX4_guess_33 : decode cX4_guess 33 = .ok (.ifCond .le 30, 3) := by decide +kernel
theorem dX4_guess_36 : decode cX4_guess 36 = .ok (.lload_n 2, 1) := by decide +kernel
theorem dX4_guess_37 : decode cX4_guess 37 = .ok (.aload_n 0, 1) := by decide +kernel
theorem dX4_guess_38 : decode cX4_guess 38 = .ok (.iload 4, 2) := by decide +kernel
theorem dX4_guess_40 : decode cX4_guess 40 = .ok (.aload_n 0, 1) := by decide +kernel
theorem dX4_guess_41 : decode cX4_guess 41 = .ok (.getfield 7, 3) := by decide +kernel
theorem dX4_guess_44 : decode cX4_guess 44 = .ok (.iload 4, 2) := by decide +kernel
theorem dX4_guess_46 : decode cX4_guess 46 = .ok (.iload_n 1, 1) := by decide +kernel
theorem dX4_guess_47 : decode cX4_guess 47 = .ok (.invokevirtual 30, 3) := by decide +kernel
theorem dX4_guess_50 : decode cX4_guess 50 = .ok (.invokevirtual 34, 3) := by decide +kernel
theorem dX4_guess_53 : decode cX4_guess 53 = .ok (.invokestatic 38, 3) := by decide +kernel
theorem dX4_guess_56 : decode cX4_guess 56 = .ok (.lstore_n 2, 1) := by decide +kernel
theorem dX4_guess_57 : decode cX4_guess 57 = .ok (.iinc 4 1, 3) := by decide +kernel
theorem dX4_guess_60 : decode cX4_guess 60 = .ok (.goto (-42), 3) := by decide +kernel
theorem dX4_guess_63 : decode cX4_guess 63 = .ok (.lload_n 2, 1) := by decide +kernel
theorem dX4_guess_64 : decode cX4_guess 64 = .ok (.lreturn, 1) := by decide +kernel
theorem dX4_low_0 : decode cX4_low 0 = .ok (.lconst 0, 1) := by decide +kernel
theorem dX4_low_1 : decode cX4_low 1 = .ok (.lreturn, 1) := by decide +kernel
theorem dX4_high_0 : decode cX4_high 0 = .ok (.aload_n 0, 1) := by decide +kernel
theorem dX4_high_1 : decode cX4_high 1 = .ok (.iload_n 1, 1) := by decide +kernel
theorem dX4_high_2 : decode cX4_high 2 = .ok (.invokevirtual 44, 3) := by decide +kernel
theorem dX4_high_5 : decode cX4_high 5 = .ok (.lreturn, 1) := by decide +kernel
theorem dX4_at_0 : decode cX4_at 0 = .ok (.aload_n 0, 1) := by decide +kernel
theorem dX4_at_1 : decode cX4_at 1 = .ok (.getfield 26, 3) := by decide +kernel
theorem dX4_at_4 : decode cX4_at 4 = .ok (.iload_n 1, 1) := by decide +kernel
theorem dX4_at_5 : decode cX4_at 5 = .ok (.aload_n 0, 1) := by decide +kernel
theorem dX4_at_6 : decode cX4_at 6 = .ok (.getfield 7, 3) := by decide +kernel
theorem dX4_at_9 : decode cX4_at 9 = .ok (.getfield 23, 3) := by decide +kernel
theorem dX4_at_12 : decode cX4_at 12 = .ok (.imul, 1) := by decide +kernel
theorem dX4_at_13 : decode cX4_at 13 = .ok (.iload_n 2, 1) := by decide +kernel
theorem dX4_at_14 : decode cX4_at 14 = .ok (.iadd, 1) := by decide +kernel
theorem dX4_at_15 : decode cX4_at 15 = .ok (.laload, 1) := by decide +kernel
theorem dX4_at_16 : decode cX4_at 16 = .ok (.lreturn, 1) := by decide +kernel
theorem dX4_take_0 : decode cX4_take 0 = .ok (.aload_n 0, 1) := by decide +kernel
theorem dX4_take_1 : decode cX4_take 1 = .ok (.getfield 13, 3) := by decide +kernel
theorem dX4_take_4 : decode cX4_take 4 = .ok (.ifCond .eq 14, 3) := by decide +kernel
theorem dX4_take_7 : decode cX4_take 7 = .ok (.aload_n 0, 1) := by decide +kernel
theorem dX4_take_8 : decode cX4_take 8 = .ok (.iload_n 1, 1) := by decide +kernel
theorem dX4_take_9 : decode cX4_take 9 = .ok (.invokevirtual 44, 3) := by decide +kernel
theorem dX4_take_12 : decode cX4_take 12 = .ok (.iload_n 2, 1) := by decide +kernel
theorem dX4_take_13 : decode cX4_take 13 = .ok (.i2l, 1) := by decide +kernel
theorem dX4_take_14 : decode cX4_take 14 = .ok (.ladd, 1) := by decide +kernel
theorem dX4_take_15 : decode cX4_take 15 = .ok (.goto 4, 3) := by decide +kernel
theorem dX4_take_18 : decode cX4_take 18 = .ok (.lconst 0, 1) := by decide +kernel
theorem dX4_take_19 : decode cX4_take 19 = .ok (.lstore_n 3, 1) := by decide +kernel
theorem dX4_take_20 : decode cX4_take 20 = .ok (.iconst 0, 1) := by decide +kernel
theorem dX4_take_21 : decode cX4_take 21 = .ok (.istore 5, 2) := by decide +kernel
theorem dX4_take_23 : decode cX4_take 23 = .ok (.iload 5, 2) := by decide +kernel
theorem dX4_take_25 : decode cX4_take 25 = .ok (.aload_n 0, 1) := by decide +kernel
theorem dX4_take_26 : decode cX4_take 26 = .ok (.getfield 7, 3) := by decide +kernel
theorem dX4_take_29 : decode cX4_take 29 = .ok (.getfield 17, 3) := by decide +kernel
theorem dX4_take_32 : decode cX4_take 32 = .ok (.if_icmp .ge 70, 3) := by decide +kernel
theorem dX4_take_35 : decode cX4_take 35 = .ok (.iload 5, 2) := by decide +kernel
theorem dX4_take_37 : decode cX4_take 37 = .ok (.aload_n 0, 1) := by decide +kernel
theorem dX4_take_38 : decode cX4_take 38 = .ok (.getfield 7, 3) := by decide +kernel
theorem dX4_take_41 : decode cX4_take 41 = .ok (.getfield 23, 3) := by decide +kernel
theorem dX4_take_44 : decode cX4_take 44 = .ok (.imul, 1) := by decide +kernel
theorem dX4_take_45 : decode cX4_take 45 = .ok (.aload_n 0, 1) := by decide +kernel
theorem dX4_take_46 : decode cX4_take 46 = .ok (.getfield 7, 3) := by decide +kernel
theorem dX4_take_49 : decode cX4_take 49 = .ok (.iload 5, 2) := by decide +kernel
theorem dX4_take_51 : decode cX4_take 51 = .ok (.iload_n 1, 1) := by decide +kernel
theorem dX4_take_52 : decode cX4_take 52 = .ok (.invokevirtual 30, 3) := by decide +kernel
theorem dX4_take_55 : decode cX4_take 55 = .ok (.iadd, 1) := by decide +kernel
theorem dX4_take_56 : decode cX4_take 56 = .ok (.istore 6, 2) := by decide +kernel
theorem dX4_take_58 : decode cX4_take 58 = .ok (.aload_n 0, 1) := by decide +kernel
theorem dX4_take_59 : decode cX4_take 59 = .ok (.getfield 26, 3) := by decide +kernel
theorem dX4_take_62 : decode cX4_take 62 = .ok (.iload 6, 2) := by decide +kernel
theorem dX4_take_64 : decode cX4_take 64 = .ok (.aload_n 0, 1) := by decide +kernel
theorem dX4_take_65 : decode cX4_take 65 = .ok (.getfield 13, 3) := by decide +kernel
theorem dX4_take_68 : decode cX4_take 68 = .ok (.ifCond .eq 17, 3) := by decide +kernel
theorem dX4_take_71 : decode cX4_take 71 = .ok (.aload_n 0, 1) := by decide +kernel
theorem dX4_take_72 : decode cX4_take 72 = .ok (.getfield 26, 3) := by decide +kernel
theorem dX4_take_75 : decode cX4_take 75 = .ok (.iload 6, 2) := by decide +kernel
theorem dX4_take_77 : decode cX4_take 77 = .ok (.laload, 1) := by decide +kernel
theorem dX4_take_78 : decode cX4_take 78 = .ok (.lload_n 3, 1) := by decide +kernel
theorem dX4_take_79 : decode cX4_take 79 = .ok (.invokestatic 48, 3) := by decide +kernel
theorem dX4_take_82 : decode cX4_take 82 = .ok (.goto 13, 3) := by decide +kernel
theorem dX4_take_85 : decode cX4_take 85 = .ok (.aload_n 0, 1) := by decide +kernel
theorem dX4_take_86 : decode cX4_take 86 = .ok (.getfield 26, 3) := by decide +kernel
theorem dX4_take_89 : decode cX4_take 89 = .ok (.iload 6, 2) := by decide +kernel
theorem dX4_take_91 : decode cX4_take 91 = .ok (.laload, 1) := by decide +kernel
theorem dX4_take_92 : decode cX4_take 92 = .ok (.iload_n 2, 1) := by decide +kernel
theorem dX4_take_93 : decode cX4_take 93 = .ok (.i2l, 1) := by decide +kernel
theorem dX4_take_94 : decode cX4_take 94 = .ok (.ladd, 1) := by decide +kernel
theorem dX4_take_95 : decode cX4_take 95 = .ok (.lastore, 1) := by decide +kernel
theorem dX4_take_96 : decode cX4_take 96 = .ok (.iinc 5 1, 3) := by decide +kernel
theorem dX4_take_99 : decode cX4_take 99 = .ok (.goto (-76), 3) := by decide +kernel
theorem dX4_take_102 : decode cX4_take 102 = .ok (.return_, 1) := by decide +kernel
theorem dX4_makeEmpty_0 : decode cX4_makeEmpty 0 = .ok (.aload_n 0, 1) := by decide +kernel
theorem dX4_makeEmpty_1 : decode cX4_makeEmpty 1 = .ok (.getfield 26, 3) := by decide +kernel
theorem dX4_makeEmpty_4 : decode cX4_makeEmpty 4 = .ok (.lconst 0, 1) := by decide +kernel
theorem dX4_makeEmpty_5 : decode cX4_makeEmpty 5 = .ok (.invokestatic 51, 3) := by decide +kernel
theorem dX4_makeEmpty_8 : decode cX4_makeEmpty 8 = .ok (.return_, 1) := by decide +kernel
theorem dX4_become_0 : decode cX4_become 0 = .ok (.aload_n 1, 1) := by decide +kernel
theorem dX4_become_1 : decode cX4_become 1 = .ok (.getfield 26, 3) := by decide +kernel
theorem dX4_become_4 : decode cX4_become 4 = .ok (.iconst 0, 1) := by decide +kernel
theorem dX4_become_5 : decode cX4_become 5 = .ok (.aload_n 0, 1) := by decide +kernel
theorem dX4_become_6 : decode cX4_become 6 = .ok (.getfield 26, 3) := by decide +kernel
theorem dX4_become_9 : decode cX4_become 9 = .ok (.iconst 0, 1) := by decide +kernel
theorem dX4_become_10 : decode cX4_become 10 = .ok (.aload_n 0, 1) := by decide +kernel
theorem dX4_become_11 : decode cX4_become 11 = .ok (.getfield 26, 3) := by decide +kernel
theorem dX4_become_14 : decode cX4_become 14 = .ok (.arraylength, 1) := by decide +kernel
theorem dX4_become_15 : decode cX4_become 15 = .ok (.invokestatic 57, 3) := by decide +kernel
theorem dX4_become_18 : decode cX4_become 18 = .ok (.return_, 1) := by decide +kernel
theorem dX4_putTogether_0 : decode cX4_putTogether 0 = .ok (.iconst 0, 1) := by decide +kernel
theorem dX4_putTogether_1 : decode cX4_putTogether 1 = .ok (.istore_n 2, 1) := by decide +kernel
theorem dX4_putTogether_2 : decode cX4_putTogether 2 = .ok (.iload_n 2, 1) := by decide +kernel
theorem dX4_putTogether_3 : decode cX4_putTogether 3 = .ok (.aload_n 0, 1) := by decide +kernel
theorem dX4_putTogether_4 : decode cX4_putTogether 4 = .ok (.getfield 26, 3) := by decide +kernel
theorem dX4_putTogether_7 : decode cX4_putTogether 7 = .ok (.arraylength, 1) := by decide +kernel
theorem dX4_putTogether_8 : decode cX4_putTogether 8 = .ok (.if_icmp .ge 24, 3) := by decide +kernel
theorem dX4_putTogether_11 : decode cX4_putTogether 11 = .ok (.aload_n 0, 1) := by decide +kernel
theorem dX4_putTogether_12 : decode cX4_putTogether 12 = .ok (.getfield 26, 3) := by decide +kernel
theorem dX4_putTogether_15 : decode cX4_putTogether 15 = .ok (.iload_n 2, 1) := by decide +kernel
theorem dX4_putTogether_16 : decode cX4_putTogether 16 = .ok (.dup2, 1) := by decide +kernel
theorem dX4_putTogether_17 : decode cX4_putTogether 17 = .ok (.laload, 1) := by decide +kernel
theorem dX4_putTogether_18 : decode cX4_putTogether 18 = .ok (.aload_n 1, 1) := by decide +kernel
theorem dX4_putTogether_19 : decode cX4_putTogether 19 = .ok (.getfield 26, 3) := by decide +kernel
theorem dX4_putTogether_22 : decode cX4_putTogether 22 = .ok (.iload_n 2, 1) := by decide +kernel
theorem dX4_putTogether_23 : decode cX4_putTogether 23 = .ok (.laload, 1) := by decide +kernel
theorem dX4_putTogether_24 : decode cX4_putTogether 24 = .ok (.ladd, 1) := by decide +kernel
theorem dX4_putTogether_25 : decode cX4_putTogether 25 = .ok (.lastore, 1) := by decide +kernel
theorem dX4_putTogether_26 : decode cX4_putTogether 26 = .ok (.iinc 2 1, 3) := by decide +kernel
theorem dX4_putTogether_29 : decode cX4_putTogether 29 = .ok (.goto (-27), 3) := by decide +kernel
theorem dX4_putTogether_32 : decode cX4_putTogether 32 = .ok (.return_, 1) := by decide +kernel
theorem dX5_init_0 : decode cX5_init 0 = .ok (.aload_n 0, 1) := by decide +kernel
theorem dX5_init_1 : decode cX5_init 1 = .ok (.invokespecial 1, 3) := by decide +kernel
theorem dX5_init_4 : decode cX5_init 4 = .ok (.aload_n 0, 1) := by decide +kernel
theorem dX5_init_5 : decode cX5_init 5 = .ok (.iload_n 1, 1) := by decide +kernel
theorem dX5_init_6 : decode cX5_init 6 = .ok (.bipush 64, 2) := by decide +kernel
theorem dX5_init_8 : decode cX5_init 8 = .ok (.idiv, 1) := by decide +kernel
theorem dX5_init_9 : decode cX5_init 9 = .ok (.iconst 1, 1) := by decide +kernel
theorem dX5_init_10 : decode cX5_init 10 = .ok (.iadd, 1) := by decide +kernel
theorem dX5_init_11 : decode cX5_init 11 = .ok (.newarray .long, 2) := by decide +kernel
theorem dX5_init_13 : decode cX5_init 13 = .ok (.putfield 7, 3) := by decide +kernel
theorem dX5_init_16 : decode cX5_init 16 = .ok (.return_, 1) := by decide +kernel
theorem dX5_has_0 : decode cX5_has 0 = .ok (.aload_n 0, 1) := by decide +kernel
theorem dX5_has_1 : decode cX5_has 1 = .ok (.getfield 7, 3) := by decide +kernel
theorem dX5_has_4 : decode cX5_has 4 = .ok (.iload_n 1, 1) := by decide +kernel
theorem dX5_has_5 : decode cX5_has 5 = .ok (.bipush 6, 2) := by decide +kernel
theorem dX5_has_7 : decode cX5_has 7 = .ok (.ishr, 1) := by decide +kernel
theorem dX5_has_8 : decode cX5_has 8 = .ok (.laload, 1) := by decide +kernel
theorem dX5_has_9 : decode cX5_has 9 = .ok (.iload_n 1, 1) := by decide +kernel
theorem dX5_has_10 : decode cX5_has 10 = .ok (.bipush 63, 2) := by decide +kernel
theorem dX5_has_12 : decode cX5_has 12 = .ok (.iand, 1) := by decide +kernel
theorem dX5_has_13 : decode cX5_has 13 = .ok (.lushr, 1) := by decide +kernel
theorem dX5_has_14 : decode cX5_has 14 = .ok (.lconst 1, 1) := by decide +kernel
theorem dX5_has_15 : decode cX5_has 15 = .ok (.land, 1) := by decide +kernel
theorem dX5_has_16 : decode cX5_has 16 = .ok (.lconst 0, 1) := by decide +kernel
theorem dX5_has_17 : decode cX5_has 17 = .ok (.lcmp, 1) := by decide +kernel
theorem dX5_has_18 : decode cX5_has 18 = .ok (.ifCond .eq 7, 3) := by decide +kernel
theorem dX5_has_21 : decode cX5_has 21 = .ok (.iconst 1, 1) := by decide +kernel
theorem dX5_has_22 : decode cX5_has 22 = .ok (.goto 4, 3) := by decide +kernel
theorem dX5_has_25 : decode cX5_has 25 = .ok (.iconst 0, 1) := by decide +kernel
theorem dX5_has_26 : decode cX5_has 26 = .ok (.ireturn, 1) := by decide +kernel
theorem dX5_put_0 : decode cX5_put 0 = .ok (.aload_n 0, 1) := by decide +kernel
theorem dX5_put_1 : decode cX5_put 1 = .ok (.getfield 7, 3) := by decide +kernel
theorem dX5_put_4 : decode cX5_put 4 = .ok (.iload_n 1, 1) := by decide +kernel
theorem dX5_put_5 : decode cX5_put 5 = .ok (.bipush 6, 2) := by decide +kernel
theorem dX5_put_7 : decode cX5_put 7 = .ok (.ishr, 1) := by decide +kernel
theorem dX5_put_8 : decode cX5_put 8 = .ok (.dup2, 1) := by decide +kernel
theorem dX5_put_9 : decode cX5_put 9 = .ok (.laload, 1) := by decide +kernel
theorem dX5_put_10 : decode cX5_put 10 = .ok (.lconst 1, 1) := by decide +kernel
theorem dX5_put_11 : decode cX5_put 11 = .ok (.iload_n 1, 1) := by decide +kernel
theorem dX5_put_12 : decode cX5_put 12 = .ok (.bipush 63, 2) := by decide +kernel
theorem dX5_put_14 : decode cX5_put 14 = .ok (.iand, 1) := by decide +kernel
theorem dX5_put_15 : decode cX5_put 15 = .ok (.lshl, 1) := by decide +kernel
theorem dX5_put_16 : decode cX5_put 16 = .ok (.lor, 1) := by decide +kernel
theorem dX5_put_17 : decode cX5_put 17 = .ok (.lastore, 1) := by decide +kernel
theorem dX5_put_18 : decode cX5_put 18 = .ok (.return_, 1) := by decide +kernel
theorem dX5_drop_0 : decode cX5_drop 0 = .ok (.aload_n 0, 1) := by decide +kernel
theorem dX5_drop_1 : decode cX5_drop 1 = .ok (.getfield 7, 3) := by decide +kernel
theorem dX5_drop_4 : decode cX5_drop 4 = .ok (.iload_n 1, 1) := by decide +kernel
theorem dX5_drop_5 : decode cX5_drop 5 = .ok (.bipush 6, 2) := by decide +kernel
theorem dX5_drop_7 : decode cX5_drop 7 = .ok (.ishr, 1) := by decide +kernel
theorem dX5_drop_8 : decode cX5_drop 8 = .ok (.dup2, 1) := by decide +kernel
theorem dX5_drop_9 : decode cX5_drop 9 = .ok (.laload, 1) := by decide +kernel
theorem dX5_drop_10 : decode cX5_drop 10 = .ok (.lconst 1, 1) := by decide +kernel
theorem dX5_drop_11 : decode cX5_drop 11 = .ok (.iload_n 1, 1) := by decide +kernel
theorem dX5_drop_12 : decode cX5_drop 12 = .ok (.bipush 63, 2) := by decide +kernel
theorem dX5_drop_14 : decode cX5_drop 14 = .ok (.iand, 1) := by decide +kernel
theorem dX5_drop_15 : decode cX5_drop 15 = .ok (.lshl, 1) := by decide +kernel
theorem dX5_drop_16 : decode cX5_drop 16 = .ok (.ldc2_w 13, 3) := by decide +kernel
theorem dX5_drop_19 : decode cX5_drop 19 = .ok (.lxor, 1) := by decide +kernel
theorem dX5_drop_20 : decode cX5_drop 20 = .ok (.land, 1) := by decide +kernel
theorem dX5_drop_21 : decode cX5_drop 21 = .ok (.lastore, 1) := by decide +kernel
theorem dX5_drop_22 : decode cX5_drop 22 = .ok (.return_, 1) := by decide +kernel
theorem dX5_makeEmpty_0 : decode cX5_makeEmpty 0 = .ok (.aload_n 0, 1) := by decide +kernel
theorem dX5_makeEmpty_1 : decode cX5_makeEmpty 1 = .ok (.getfield 7, 3) := by decide +kernel
theorem dX5_makeEmpty_4 : decode cX5_makeEmpty 4 = .ok (.lconst 0, 1) := by decide +kernel
theorem dX5_makeEmpty_5 : decode cX5_makeEmpty 5 = .ok (.invokestatic 15, 3) := by decide +kernel
theorem dX5_makeEmpty_8 : decode cX5_makeEmpty 8 = .ok (.return_, 1) := by decide +kernel
theorem dX5_become_0 : decode cX5_become 0 = .ok (.aload_n 1, 1) := by decide +kernel
theorem dX5_become_1 : decode cX5_become 1 = .ok (.getfield 7, 3) := by decide +kernel
theorem dX5_become_4 : decode cX5_become 4 = .ok (.iconst 0, 1) := by decide +kernel
theorem dX5_become_5 : decode cX5_become 5 = .ok (.aload_n 0, 1) := by decide +kernel
theorem dX5_become_6 : decode cX5_become 6 = .ok (.getfield 7, 3) := by decide +kernel
theorem dX5_become_9 : decode cX5_become 9 = .ok (.iconst 0, 1) := by decide +kernel
theorem dX5_become_10 : decode cX5_become 10 = .ok (.aload_n 0, 1) := by decide +kernel
theorem dX5_become_11 : decode cX5_become 11 = .ok (.getfield 7, 3) := by decide +kernel
theorem dX5_become_14 : decode cX5_become 14 = .ok (.arraylength, 1) := by decide +kernel
theorem dX5_become_15 : decode cX5_become 15 = .ok (.invokestatic 21, 3) := by decide +kernel
theorem dX5_become_18 : decode cX5_become 18 = .ok (.return_, 1) := by decide +kernel
theorem dX6_init_0 : decode cX6_init 0 = .ok (.aload_n 0, 1) := by decide +kernel
theorem dX6_init_1 : decode cX6_init 1 = .ok (.invokespecial 1, 3) := by decide +kernel
theorem dX6_init_4 : decode cX6_init 4 = .ok (.aload_n 0, 1) := by decide +kernel
theorem dX6_init_5 : decode cX6_init 5 = .ok (.new 7, 3) := by decide +kernel
theorem dX6_init_8 : decode cX6_init 8 = .ok (.dup, 1) := by decide +kernel
theorem dX6_init_9 : decode cX6_init 9 = .ok (.iload_n 1, 1) := by decide +kernel
theorem dX6_init_10 : decode cX6_init 10 = .ok (.iload_n 2, 1) := by decide +kernel
theorem dX6_init_11 : decode cX6_init 11 = .ok (.invokespecial 9, 3) := by decide +kernel
theorem dX6_init_14 : decode cX6_init 14 = .ok (.putfield 12, 3) := by decide +kernel
theorem dX6_init_17 : decode cX6_init 17 = .ok (.return_, 1) := by decide +kernel
theorem dX6_guess_0 : decode cX6_guess 0 = .ok (.aload_n 0, 1) := by decide +kernel
theorem dX6_guess_1 : decode cX6_guess 1 = .ok (.getfield 12, 3) := by decide +kernel
theorem dX6_guess_4 : decode cX6_guess 4 = .ok (.iload_n 1, 1) := by decide +kernel
theorem dX6_guess_5 : decode cX6_guess 5 = .ok (.invokevirtual 18, 3) := by decide +kernel
theorem dX6_guess_8 : decode cX6_guess 8 = .ok (.istore_n 2, 1) := by decide +kernel
theorem dX6_guess_9 : decode cX6_guess 9 = .ok (.iload_n 2, 1) := by decide +kernel
theorem dX6_guess_10 : decode cX6_guess 10 = .ok (.ifCond .ge 7, 3) := by decide +kernel
theorem dX6_guess_13 : decode cX6_guess 13 = .ok (.lconst 0, 1) := by decide +kernel
theorem dX6_guess_14 : decode cX6_guess 14 = .ok (.goto 12, 3) := by decide +kernel
theorem dX6_guess_17 : decode cX6_guess 17 = .ok (.aload_n 0, 1) := by decide +kernel
theorem dX6_guess_18 : decode cX6_guess 18 = .ok (.getfield 12, 3) := by decide +kernel
theorem dX6_guess_21 : decode cX6_guess 21 = .ok (.getfield 22, 3) := by decide +kernel
theorem dX6_guess_24 : decode cX6_guess 24 = .ok (.iload_n 2, 1) := by decide +kernel
theorem dX6_guess_25 : decode cX6_guess 25 = .ok (.laload, 1) := by decide +kernel
theorem dX6_guess_26 : decode cX6_guess 26 = .ok (.lreturn, 1) := by decide +kernel
theorem dX6_low_0 : decode cX6_low 0 = .ok (.aload_n 0, 1) := by decide +kernel
theorem dX6_low_1 : decode cX6_low 1 = .ok (.iload_n 1, 1) := by decide +kernel
theorem dX6_low_2 : decode cX6_low 2 = .ok (.invokevirtual 26, 3) := by decide +kernel
theorem dX6_low_5 : decode cX6_low 5 = .ok (.lreturn, 1) := by decide +kernel
theorem dX6_high_0 : decode cX6_high 0 = .ok (.aload_n 0, 1) := by decide +kernel
theorem dX6_high_1 : decode cX6_high 1 = .ok (.iload_n 1, 1) := by decide +kernel
theorem dX6_high_2 : decode cX6_high 2 = .ok (.invokevirtual 26, 3) := by decide +kernel
theorem dX6_high_5 : decode cX6_high 5 = .ok (.aload_n 0, 1) := by decide +kernel
theorem dX6_high_6 : decode cX6_high 6 = .ok (.getfield 30, 3) := by decide +kernel
theorem dX6_high_9 : decode cX6_high 9 = .ok (.ladd, 1) := by decide +kernel
theorem dX6_high_10 : decode cX6_high 10 = .ok (.lreturn, 1) := by decide +kernel
theorem dX6_take_0 : decode cX6_take 0 = .ok (.aload_n 0, 1) := by decide +kernel
theorem dX6_take_1 : decode cX6_take 1 = .ok (.getfield 12, 3) := by decide +kernel
theorem dX6_take_4 : decode cX6_take 4 = .ok (.iload_n 1, 1) := by decide +kernel
theorem dX6_take_5 : decode cX6_take 5 = .ok (.invokevirtual 18, 3) := by decide +kernel
theorem dX6_take_8 : decode cX6_take 8 = .ok (.istore_n 3, 1) := by decide +kernel
theorem dX6_take_9 : decode cX6_take 9 = .ok (.iload_n 3, 1) := by decide +kernel
theorem dX6_take_10 : decode cX6_take 10 = .ok (.ifCond .lt 18, 3) := by decide +kernel
theorem dX6_take_13 : decode cX6_take 13 = .ok (.aload_n 0, 1) := by decide +kernel
theorem dX6_take_14 : decode cX6_take 14 = .ok (.getfield 12, 3) := by decide +kernel
theorem dX6_take_17 : decode cX6_take 17 = .ok (.getfield 22, 3) := by decide +kernel
theorem dX6_take_20 : decode cX6_take 20 = .ok (.iload_n 3, 1) := by decide +kernel
theorem dX6_take_21 : decode cX6_take 21 = .ok (.dup2, 1) := by decide +kernel
theorem dX6_take_22 : decode cX6_take 22 = .ok (.laload, 1) := by decide +kernel
theorem dX6_take_23 : decode cX6_take 23 = .ok (.iload_n 2, 1) := by decide +kernel
theorem dX6_take_24 : decode cX6_take 24 = .ok (.i2l, 1) := by decide +kernel
theorem dX6_take_25 : decode cX6_take 25 = .ok (.ladd, 1) := by decide +kernel
theorem dX6_take_26 : decode cX6_take 26 = .ok (.lastore, 1) := by decide +kernel
theorem dX6_take_27 : decode cX6_take 27 = .ok (.return_, 1) := by decide +kernel
theorem dX6_take_28 : decode cX6_take 28 = .ok (.iload_n 2, 1) := by decide +kernel
theorem dX6_take_29 : decode cX6_take 29 = .ok (.i2l, 1) := by decide +kernel
theorem dX6_take_30 : decode cX6_take 30 = .ok (.lstore 4, 2) := by decide +kernel
theorem dX6_take_32 : decode cX6_take 32 = .ok (.aload_n 0, 1) := by decide +kernel
theorem dX6_take_33 : decode cX6_take 33 = .ok (.getfield 12, 3) := by decide +kernel
theorem dX6_take_36 : decode cX6_take 36 = .ok (.invokevirtual 34, 3) := by decide +kernel
theorem dX6_take_39 : decode cX6_take 39 = .ok (.ifCond .eq 34, 3) := by decide +kernel
theorem dX6_take_42 : decode cX6_take 42 = .ok (.aload_n 0, 1) := by decide +kernel
theorem dX6_take_43 : decode cX6_take 43 = .ok (.aload_n 0, 1) := by decide +kernel
theorem dX6_take_44 : decode cX6_take 44 = .ok (.getfield 12, 3) := by decide +kernel
theorem dX6_take_47 : decode cX6_take 47 = .ok (.getfield 38, 3) := by decide +kernel
theorem dX6_take_50 : decode cX6_take 50 = .ok (.invokevirtual 42, 3) := by decide +kernel
theorem dX6_take_53 : decode cX6_take 53 = .ok (.lload 4, 2) := by decide +kernel
theorem dX6_take_55 : decode cX6_take 55 = .ok (.invokestatic 45, 3) := by decide +kernel
theorem dX6_take_58 : decode cX6_take 58 = .ok (.lstore 6, 2) := by decide +kernel
theorem dX6_take_60 : decode cX6_take 60 = .ok (.aload_n 0, 1) := by decide +kernel
theorem dX6_take_61 : decode cX6_take 61 = .ok (.lload 6, 2) := by decide +kernel
theorem dX6_take_63 : decode cX6_take 63 = .ok (.invokevirtual 51, 3) := by decide +kernel
theorem dX6_take_66 : decode cX6_take 66 = .ok (.lload 4, 2) := by decide +kernel
theorem dX6_take_68 : decode cX6_take 68 = .ok (.lload 6, 2) := by decide +kernel
theorem dX6_take_70 : decode cX6_take 70 = .ok (.lsub, 1) := by decide +kernel
theorem dX6_take_71 : decode cX6_take 71 = .ok (.lstore 4, 2) := by decide +kernel
theorem dX6_take_73 : decode cX6_take 73 = .ok (.lload 4, 2) := by decide +kernel
theorem dX6_take_75 : decode cX6_take 75 = .ok (.lconst 0, 1) := by decide +kernel
theorem dX6_take_76 : decode cX6_take 76 = .ok (.lcmp, 1) := by decide +kernel
theorem dX6_take_77 : decode cX6_take 77 = .ok (.ifCond .le 14, 3) := by decide +kernel
theorem dX6_take_80 : decode cX6_take 80 = .ok (.aload_n 0, 1) := by decide +kernel
theorem dX6_take_81 : decode cX6_take 81 = .ok (.getfield 12, 3) := by decide +kernel
theorem dX6_take_84 : decode cX6_take 84 = .ok (.iload_n 1, 1) := by decide +kernel
theorem dX6_take_85 : decode cX6_take 85 = .ok (.lload 4, 2) := by decide +kernel
theorem dX6_take_87 : decode cX6_take 87 = .ok (.lconst 0, 1) := by decide +kernel
theorem dX6_take_88 : decode cX6_take 88 = .ok (.invokevirtual 55, 3) := by decide +kernel
theorem dX6_take_91 : decode cX6_take 91 = .ok (.return_, 1) := by decide +kernel
theorem dX6_takeFromAll_0 : decode cX6_takeFromAll 0 = .ok (.aload_n 0, 1) := by decide +kernel
theorem dX6_takeFromAll_1 : decode cX6_takeFromAll 1 = .ok (.dup, 1) := by decide +kernel
theorem dX6_takeFromAll_2 : decode cX6_takeFromAll 2 = .ok (.getfield 30, 3) := by decide +kernel
theorem dX6_takeFromAll_5 : decode cX6_takeFromAll 5 = .ok (.lload_n 1, 1) := by decide +kernel
theorem dX6_takeFromAll_6 : decode cX6_takeFromAll 6 = .ok (.ladd, 1) := by decide +kernel
theorem dX6_takeFromAll_7 : decode cX6_takeFromAll 7 = .ok (.putfield 30, 3) := by decide +kernel
theorem dX6_takeFromAll_10 : decode cX6_takeFromAll 10 = .ok (.aload_n 0, 1) := by decide +kernel
theorem dX6_takeFromAll_11 : decode cX6_takeFromAll 11 = .ok (.getfield 12, 3) := by decide +kernel
theorem dX6_takeFromAll_14 : decode cX6_takeFromAll 14 = .ok (.getfield 38, 3) := by decide +kernel
theorem dX6_takeFromAll_17 : decode cX6_takeFromAll 17 = .ok (.iconst 1, 1) := by decide +kernel
theorem dX6_takeFromAll_18 : decode cX6_takeFromAll 18 = .ok (.isub, 1) := by decide +kernel
theorem dX6_takeFromAll_19 : decode cX6_takeFromAll 19 = .ok (.istore_n 3, 1) := by decide +kernel
theorem dX6_takeFromAll_20 : decode cX6_takeFromAll 20 = .ok (.iload_n 3, 1) := by decide +kernel
theorem dX6_takeFromAll_21 : decode cX6_takeFromAll 21 = .ok (.ifCond .lt 44, 3) := by decide +kernel
theorem dX6_takeFromAll_24 : decode cX6_takeFromAll 24 = .ok (.aload_n 0, 1) := by decide +kernel
theorem dX6_takeFromAll_25 : decode cX6_takeFromAll 25 = .ok (.getfield 12, 3) := by decide +kernel
theorem dX6_takeFromAll_28 : decode cX6_takeFromAll 28 = .ok (.getfield 22, 3) := by decide +kernel
theorem dX6_takeFromAll_31 : decode cX6_takeFromAll 31 = .ok (.iload_n 3, 1) := by decide +kernel
theorem dX6_takeFromAll_32 : decode cX6_takeFromAll 32 = .ok (.dup2, 1) := by decide +kernel
theorem dX6_takeFromAll_33 : decode cX6_takeFromAll 33 = .ok (.laload, 1) := by decide +kernel
theorem dX6_takeFromAll_34 : decode cX6_takeFromAll 34 = .ok (.lload_n 1, 1) := by decide +kernel
theorem dX6_takeFromAll_35 : decode cX6_takeFromAll 35 = .ok (.lsub, 1) := by decide +kernel
theorem dX6_takeFromAll_36 : decode cX6_takeFromAll 36 = .ok (.lastore, 1) := by decide +kernel
theorem dX6_takeFromAll_37 : decode cX6_takeFromAll 37 = .ok (.aload_n 0, 1) := by decide +kernel
theorem dX6_takeFromAll_38 : decode cX6_takeFromAll 38 = .ok (.getfield 12, 3) := by decide +kernel
theorem dX6_takeFromAll_41 : decode cX6_takeFromAll 41 = .ok (.getfield 22, 3) := by decide +kernel
theorem dX6_takeFromAll_44 : decode cX6_takeFromAll 44 = .ok (.iload_n 3, 1) := by decide +kernel
theorem dX6_takeFromAll_45 : decode cX6_takeFromAll 45 = .ok (.laload, 1) := by decide +kernel
theorem dX6_takeFromAll_46 : decode cX6_takeFromAll 46 = .ok (.lconst 0, 1) := by decide +kernel
theorem dX6_takeFromAll_47 : decode cX6_takeFromAll 47 = .ok (.lcmp, 1) := by decide +kernel
theorem dX6_takeFromAll_48 : decode cX6_takeFromAll 48 = .ok (.ifCond .gt 11, 3) := by decide +kernel
theorem dX6_takeFromAll_51 : decode cX6_takeFromAll 51 = .ok (.aload_n 0, 1) := by decide +kernel
theorem dX6_takeFromAll_52 : decode cX6_takeFromAll 52 = .ok (.getfield 12, 3) := by decide +kernel
theorem dX6_takeFromAll_55 : decode cX6_takeFromAll 55 = .ok (.iload_n 3, 1) := by decide +kernel
theorem dX6_takeFromAll_56 : decode cX6_takeFromAll 56 = .ok (.invokevirtual 59, 3) := by decide +kernel
theorem dX6_takeFromAll_59 : decode cX6_takeFromAll 59 = .ok (.iinc 3 (-1), 3) := by decide +kernel
theorem dX6_takeFromAll_62 : decode cX6_takeFromAll 62 = .ok (.goto (-42), 3) := by decide +kernel
theorem dX6_takeFromAll_65 : decode cX6_takeFromAll 65 = .ok (.return_, 1) := by decide +kernel
theorem dX6_greatest_0 : decode cX6_greatest 0 = .ok (.iconst 0, 1) := by decide +kernel
theorem dX6_greatest_1 : decode cX6_greatest 1 = .ok (.istore_n 2, 1) := by decide +kernel
theorem dX6_greatest_2 : decode cX6_greatest 2 = .ok (.iload_n 2, 1) := by decide +kernel
theorem dX6_greatest_3 : decode cX6_greatest 3 = .ok (.aload_n 0, 1) := by decide +kernel
theorem dX6_greatest_4 : decode cX6_greatest 4 = .ok (.getfield 12, 3) := by decide +kernel
theorem dX6_greatest_7 : decode cX6_greatest 7 = .ok (.getfield 38, 3) := by decide +kernel
theorem dX6_greatest_10 : decode cX6_greatest 10 = .ok (.if_icmp .ge 120, 3) := by decide +kernel
theorem dX6_greatest_13 : decode cX6_greatest 13 = .ok (.iconst 0, 1) := by decide +kernel
theorem dX6_greatest_14 : decode cX6_greatest 14 = .ok (.istore_n 3, 1) := by decide +kernel
theorem dX6_greatest_15 : decode cX6_greatest 15 = .ok (.iconst 0, 1) := by decide +kernel
theorem dX6_greatest_16 : decode cX6_greatest 16 = .ok (.istore 4, 2) := by decide +kernel
theorem dX6_greatest_18 : decode cX6_greatest 18 = .ok (.iconst 0, 1) := by decide +kernel
theorem dX6_greatest_19 : decode cX6_greatest 19 = .ok (.istore 5, 2) := by decide +kernel
theorem dX6_greatest_21 : decode cX6_greatest 21 = .ok (.iload 5, 2) := by decide +kernel
theorem dX6_greatest_23 : decode cX6_greatest 23 = .ok (.aload_n 0, 1) := by decide +kernel
theorem dX6_greatest_24 : decode cX6_greatest 24 = .ok (.getfield 12, 3) := by decide +kernel
theorem dX6_greatest_27 : decode cX6_greatest 27 = .ok (.getfield 38, 3) := by decide +kernel
theorem dX6_greatest_30 : decode cX6_greatest 30 = .ok (.if_icmp .ge 73, 3) := by decide +kernel
theorem dX6_greatest_33 : decode cX6_greatest 33 = .ok (.iload_n 3, 1) := by decide +kernel
theorem dX6_greatest_34 : decode cX6_greatest 34 = .ok (.aload_n 0, 1) := by decide +kernel
theorem dX6_greatest_35 : decode cX6_greatest 35 = .ok (.getfield 12, 3) := by decide +kernel
theorem dX6_greatest_38 : decode cX6_greatest 38 = .ok (.getfield 22, 3) := by decide +kernel
theorem dX6_greatest_41 : decode cX6_greatest 41 = .ok (.iload 5, 2) := by decide +kernel
theorem dX6_greatest_43 : decode cX6_greatest 43 = .ok (.laload, 1) := by decide +kernel
theorem dX6_greatest_44 : decode cX6_greatest 44 = .ok (.aload_n 0, 1) := by decide +kernel
theorem dX6_greatest_45 : decode cX6_greatest 45 = .ok (.getfield 12, 3) := by decide +kernel
theorem dX6_greatest_48 : decode cX6_greatest 48 = .ok (.getfield 22, 3) := by decide +kernel
theorem dX6_greatest_51 : decode cX6_greatest 51 = .ok (.iload_n 2, 1) := by decide +kernel
theorem dX6_greatest_52 : decode cX6_greatest 52 = .ok (.laload, 1) := by decide +kernel
theorem dX6_greatest_53 : decode cX6_greatest 53 = .ok (.lcmp, 1) := by decide +kernel
theorem dX6_greatest_54 : decode cX6_greatest 54 = .ok (.ifCond .le 7, 3) := by decide +kernel
theorem dX6_greatest_57 : decode cX6_greatest 57 = .ok (.iconst 1, 1) := by decide +kernel
theorem dX6_greatest_58 : decode cX6_greatest 58 = .ok (.goto 4, 3) := by decide +kernel
theorem dX6_greatest_61 : decode cX6_greatest 61 = .ok (.iconst 0, 1) := by decide +kernel
theorem dX6_greatest_62 : decode cX6_greatest 62 = .ok (.iadd, 1) := by decide +kernel
theorem dX6_greatest_63 : decode cX6_greatest 63 = .ok (.istore_n 3, 1) := by decide +kernel
theorem dX6_greatest_64 : decode cX6_greatest 64 = .ok (.iload 4, 2) := by decide +kernel
theorem dX6_greatest_66 : decode cX6_greatest 66 = .ok (.aload_n 0, 1) := by decide +kernel
theorem dX6_greatest_67 : decode cX6_greatest 67 = .ok (.getfield 12, 3) := by decide +kernel
theorem dX6_greatest_70 : decode cX6_greatest 70 = .ok (.getfield 22, 3) := by decide +kernel
theorem dX6_greatest_73 : decode cX6_greatest 73 = .ok (.iload 5, 2) := by decide +kernel
theorem dX6_greatest_75 : decode cX6_greatest 75 = .ok (.laload, 1) := by decide +kernel
theorem dX6_greatest_76 : decode cX6_greatest 76 = .ok (.aload_n 0, 1) := by decide +kernel
theorem dX6_greatest_77 : decode cX6_greatest 77 = .ok (.getfield 12, 3) := by decide +kernel
theorem dX6_greatest_80 : decode cX6_greatest 80 = .ok (.getfield 22, 3) := by decide +kernel
theorem dX6_greatest_83 : decode cX6_greatest 83 = .ok (.iload_n 2, 1) := by decide +kernel
theorem dX6_greatest_84 : decode cX6_greatest 84 = .ok (.laload, 1) := by decide +kernel
theorem dX6_greatest_85 : decode cX6_greatest 85 = .ok (.lcmp, 1) := by decide +kernel
theorem dX6_greatest_86 : decode cX6_greatest 86 = .ok (.ifCond .lt 7, 3) := by decide +kernel
theorem dX6_greatest_89 : decode cX6_greatest 89 = .ok (.iconst 1, 1) := by decide +kernel
theorem dX6_greatest_90 : decode cX6_greatest 90 = .ok (.goto 4, 3) := by decide +kernel
theorem dX6_greatest_93 : decode cX6_greatest 93 = .ok (.iconst 0, 1) := by decide +kernel
theorem dX6_greatest_94 : decode cX6_greatest 94 = .ok (.iadd, 1) := by decide +kernel
theorem dX6_greatest_95 : decode cX6_greatest 95 = .ok (.istore 4, 2) := by decide +kernel
theorem dX6_greatest_97 : decode cX6_greatest 97 = .ok (.iinc 5 1, 3) := by decide +kernel
theorem dX6_greatest_100 : decode cX6_greatest 100 = .ok (.goto (-79), 3) := by decide +kernel
theorem dX6_greatest_103 : decode cX6_greatest 103 = .ok (.iload_n 3, 1) := by decide +kernel
theorem dX6_greatest_104 : decode cX6_greatest 104 = .ok (.iload_n 1, 1) := by decide +kernel
theorem dX6_greatest_105 : decode cX6_greatest 105 = .ok (.if_icmp .ge 19, 3) := by decide +kernel
theorem dX6_greatest_108 : decode cX6_greatest 108 = .ok (.iload_n 1, 1) := by decide +kernel
theorem dX6_greatest_109 : decode cX6_greatest 109 = .ok (.iload 4, 2) := by decide +kernel
theorem dX6_greatest_111 : decode cX6_greatest 111 = .ok (.if_icmp .gt 13, 3) := by decide +kernel
theorem dX6_greatest_114 : decode cX6_greatest 114 = .ok (.aload_n 0, 1) := by decide +kernel
theorem dX6_greatest_115 : decode cX6_greatest 115 = .ok (.getfield 12, 3) := by decide +kernel
theorem dX6_greatest_118 : decode cX6_greatest 118 = .ok (.getfield 22, 3) := by decide +kernel
theorem dX6_greatest_121 : decode cX6_greatest 121 = .ok (.iload_n 2, 1) := by decide +kernel
theorem dX6_greatest_122 : decode cX6_greatest 122 = .ok (.laload, 1) := by decide +kernel
theorem dX6_greatest_123 : decode cX6_greatest 123 = .ok (.lreturn, 1) := by decide +kernel
theorem dX6_greatest_124 : decode cX6_greatest 124 = .ok (.iinc 2 1, 3) := by decide +kernel
theorem dX6_greatest_127 : decode cX6_greatest 127 = .ok (.goto (-125), 3) := by decide +kernel
theorem dX6_greatest_130 : decode cX6_greatest 130 = .ok (.lconst 0, 1) := by decide +kernel
theorem dX6_greatest_131 : decode cX6_greatest 131 = .ok (.lreturn, 1) := by decide +kernel
theorem dX6_makeEmpty_0 : decode cX6_makeEmpty 0 = .ok (.aload_n 0, 1) := by decide +kernel
theorem dX6_makeEmpty_1 : decode cX6_makeEmpty 1 = .ok (.getfield 12, 3) := by decide +kernel
theorem dX6_makeEmpty_4 : decode cX6_makeEmpty 4 = .ok (.invokevirtual 63, 3) := by decide +kernel
theorem dX6_makeEmpty_7 : decode cX6_makeEmpty 7 = .ok (.aload_n 0, 1) := by decide +kernel
theorem dX6_makeEmpty_8 : decode cX6_makeEmpty 8 = .ok (.lconst 0, 1) := by decide +kernel
theorem dX6_makeEmpty_9 : decode cX6_makeEmpty 9 = .ok (.putfield 30, 3) := by decide +kernel
theorem dX6_makeEmpty_12 : decode cX6_makeEmpty 12 = .ok (.return_, 1) := by decide +kernel
theorem dX6_become_0 : decode cX6_become 0 = .ok (.aload_n 0, 1) := by decide +kernel
theorem dX6_become_1 : decode cX6_become 1 = .ok (.getfield 12, 3) := by decide +kernel
theorem dX6_become_4 : decode cX6_become 4 = .ok (.aload_n 1, 1) := by decide +kernel
theorem dX6_become_5 : decode cX6_become 5 = .ok (.getfield 12, 3) := by decide +kernel
theorem dX6_become_8 : decode cX6_become 8 = .ok (.invokevirtual 66, 3) := by decide +kernel
theorem dX6_become_11 : decode cX6_become 11 = .ok (.aload_n 0, 1) := by decide +kernel
theorem dX6_become_12 : decode cX6_become 12 = .ok (.aload_n 1, 1) := by decide +kernel
theorem dX6_become_13 : decode cX6_become 13 = .ok (.getfield 30, 3) := by decide +kernel
theorem dX6_become_16 : decode cX6_become 16 = .ok (.putfield 30, 3) := by decide +kernel
theorem dX6_become_19 : decode cX6_become 19 = .ok (.return_, 1) := by decide +kernel
theorem dX6_putTogether_0 : decode cX6_putTogether 0 = .ok (.aload_n 1, 1) := by decide +kernel
theorem dX6_putTogether_1 : decode cX6_putTogether 1 = .ok (.getfield 12, 3) := by decide +kernel
theorem dX6_putTogether_4 : decode cX6_putTogether 4 = .ok (.getfield 38, 3) := by decide +kernel
theorem dX6_putTogether_7 : decode cX6_putTogether 7 = .ok (.istore_n 2, 1) := by decide +kernel
theorem dX6_putTogether_8 : decode cX6_putTogether 8 = .ok (.iconst 0, 1) := by decide +kernel
theorem dX6_putTogether_9 : decode cX6_putTogether 9 = .ok (.istore_n 3, 1) := by decide +kernel
theorem dX6_putTogether_10 : decode cX6_putTogether 10 = .ok (.iload_n 3, 1) := by decide +kernel
theorem dX6_putTogether_11 : decode cX6_putTogether 11 = .ok (.iload_n 2, 1) := by decide +kernel
theorem dX6_putTogether_12 : decode cX6_putTogether 12 = .ok (.if_icmp .ge 77, 3) := by decide +kernel
theorem dX6_putTogether_15 : decode cX6_putTogether 15 = .ok (.aload_n 1, 1) := by decide +kernel
theorem dX6_putTogether_16 : decode cX6_putTogether 16 = .ok (.getfield 12, 3) := by decide +kernel
theorem dX6_putTogether_19 : decode cX6_putTogether 19 = .ok (.getfield 70, 3) := by decide +kernel
theorem dX6_putTogether_22 : decode cX6_putTogether 22 = .ok (.iload_n 3, 1) := by decide +kernel
theorem dX6_putTogether_23 : decode cX6_putTogether 23 = .ok (.iaload, 1) := by decide +kernel
theorem dX6_putTogether_24 : decode cX6_putTogether 24 = .ok (.istore 4, 2) := by decide +kernel
theorem dX6_putTogether_26 : decode cX6_putTogether 26 = .ok (.aload_n 1, 1) := by decide +kernel
theorem dX6_putTogether_27 : decode cX6_putTogether 27 = .ok (.getfield 12, 3) := by decide +kernel
theorem dX6_putTogether_30 : decode cX6_putTogether 30 = .ok (.getfield 22, 3) := by decide +kernel
theorem dX6_putTogether_33 : decode cX6_putTogether 33 = .ok (.iload_n 3, 1) := by decide +kernel
theorem dX6_putTogether_34 : decode cX6_putTogether 34 = .ok (.laload, 1) := by decide +kernel
theorem dX6_putTogether_35 : decode cX6_putTogether 35 = .ok (.lstore 5, 2) := by decide +kernel
theorem dX6_putTogether_37 : decode cX6_putTogether 37 = .ok (.aload_n 0, 1) := by decide +kernel
theorem dX6_putTogether_38 : decode cX6_putTogether 38 = .ok (.getfield 12, 3) := by decide +kernel
theorem dX6_putTogether_41 : decode cX6_putTogether 41 = .ok (.iload 4, 2) := by decide +kernel
theorem dX6_putTogether_43 : decode cX6_putTogether 43 = .ok (.invokevirtual 18, 3) := by decide +kernel
theorem dX6_putTogether_46 : decode cX6_putTogether 46 = .ok (.istore 7, 2) := by decide +kernel
theorem dX6_putTogether_48 : decode cX6_putTogether 48 = .ok (.iload 7, 2) := by decide +kernel
theorem dX6_putTogether_50 : decode cX6_putTogether 50 = .ok (.ifCond .lt 21, 3) := by decide +kernel
theorem dX6_putTogether_53 : decode cX6_putTogether 53 = .ok (.aload_n 0, 1) := by decide +kernel
theorem dX6_putTogether_54 : decode cX6_putTogether 54 = .ok (.getfield 12, 3) := by decide +kernel
theorem dX6_putTogether_57 : decode cX6_putTogether 57 = .ok (.getfield 22, 3) := by decide +kernel
theorem dX6_putTogether_60 : decode cX6_putTogether 60 = .ok (.iload 7, 2) := by decide +kernel
theorem dX6_putTogether_62 : decode cX6_putTogether 62 = .ok (.dup2, 1) := by decide +kernel
theorem dX6_putTogether_63 : decode cX6_putTogether 63 = .ok (.laload, 1) := by decide +kernel
theorem dX6_putTogether_64 : decode cX6_putTogether 64 = .ok (.lload 5, 2) := by decide +kernel
theorem dX6_putTogether_66 : decode cX6_putTogether 66 = .ok (.ladd, 1) := by decide +kernel
theorem dX6_putTogether_67 : decode cX6_putTogether 67 = .ok (.lastore, 1) := by decide +kernel
theorem dX6_putTogether_68 : decode cX6_putTogether 68 = .ok (.goto 15, 3) := by decide +kernel
theorem dX6_putTogether_71 : decode cX6_putTogether 71 = .ok (.aload_n 0, 1) := by decide +kernel
theorem dX6_putTogether_72 : decode cX6_putTogether 72 = .ok (.getfield 12, 3) := by decide +kernel
theorem dX6_putTogether_75 : decode cX6_putTogether 75 = .ok (.iload 4, 2) := by decide +kernel
theorem dX6_putTogether_77 : decode cX6_putTogether 77 = .ok (.lload 5, 2) := by decide +kernel
theorem dX6_putTogether_79 : decode cX6_putTogether 79 = .ok (.lconst 0, 1) := by decide +kernel
theorem dX6_putTogether_80 : decode cX6_putTogether 80 = .ok (.invokevirtual 55, 3) := by decide +kernel
theorem dX6_putTogether_83 : decode cX6_putTogether 83 = .ok (.iinc 3 1, 3) := by decide +kernel
theorem dX6_putTogether_86 : decode cX6_putTogether 86 = .ok (.goto (-76), 3) := by decide +kernel
theorem dX6_putTogether_89 : decode cX6_putTogether 89 = .ok (.aload_n 0, 1) := by decide +kernel
theorem dX6_putTogether_90 : decode cX6_putTogether 90 = .ok (.dup, 1) := by decide +kernel
theorem dX6_putTogether_91 : decode cX6_putTogether 91 = .ok (.getfield 30, 3) := by decide +kernel
theorem dX6_putTogether_94 : decode cX6_putTogether 94 = .ok (.aload_n 1, 1) := by decide +kernel
theorem dX6_putTogether_95 : decode cX6_putTogether 95 = .ok (.getfield 30, 3) := by decide +kernel
theorem dX6_putTogether_98 : decode cX6_putTogether 98 = .ok (.ladd, 1) := by decide +kernel
theorem dX6_putTogether_99 : decode cX6_putTogether 99 = .ok (.putfield 30, 3) := by decide +kernel
theorem dX6_putTogether_102 : decode cX6_putTogether 102 = .ok (.aload_n 0, 1) := by decide +kernel
theorem dX6_putTogether_103 : decode cX6_putTogether 103 = .ok (.getfield 12, 3) := by decide +kernel
theorem dX6_putTogether_106 : decode cX6_putTogether 106 = .ok (.getfield 38, 3) := by decide +kernel
theorem dX6_putTogether_109 : decode cX6_putTogether 109 = .ok (.aload_n 0, 1) := by decide +kernel
theorem dX6_putTogether_110 : decode cX6_putTogether 110 = .ok (.getfield 12, 3) := by decide +kernel
theorem dX6_putTogether_113 : decode cX6_putTogether 113 = .ok (.getfield 74, 3) := by decide +kernel
theorem dX6_putTogether_116 : decode cX6_putTogether 116 = .ok (.if_icmp .le 20, 3) := by decide +kernel
theorem dX6_putTogether_119 : decode cX6_putTogether 119 = .ok (.aload_n 0, 1) := by decide +kernel
theorem dX6_putTogether_120 : decode cX6_putTogether 120 = .ok (.aload_n 0, 1) := by decide +kernel
theorem dX6_putTogether_121 : decode cX6_putTogether 121 = .ok (.aload_n 0, 1) := by decide +kernel
theorem dX6_putTogether_122 : decode cX6_putTogether 122 = .ok (.getfield 12, 3) := by decide +kernel
theorem dX6_putTogether_125 : decode cX6_putTogether 125 = .ok (.getfield 74, 3) := by decide +kernel
theorem dX6_putTogether_128 : decode cX6_putTogether 128 = .ok (.iconst 1, 1) := by decide +kernel
theorem dX6_putTogether_129 : decode cX6_putTogether 129 = .ok (.iadd, 1) := by decide +kernel
theorem dX6_putTogether_130 : decode cX6_putTogether 130 = .ok (.invokevirtual 42, 3) := by decide +kernel
theorem dX6_putTogether_133 : decode cX6_putTogether 133 = .ok (.invokevirtual 51, 3) := by decide +kernel
theorem dX6_putTogether_136 : decode cX6_putTogether 136 = .ok (.return_, 1) := by decide +kernel
theorem dX7_init_0 : decode cX7_init 0 = .ok (.aload_n 0, 1) := by decide +kernel
theorem dX7_init_1 : decode cX7_init 1 = .ok (.invokespecial 3, 3) := by decide +kernel
theorem dX7_init_4 : decode cX7_init 4 = .ok (.aload_n 0, 1) := by decide +kernel
theorem dX7_init_5 : decode cX7_init 5 = .ok (.iload_n 1, 1) := by decide +kernel
theorem dX7_init_6 : decode cX7_init 6 = .ok (.newarray .int, 2) := by decide +kernel
theorem dX7_init_8 : decode cX7_init 8 = .ok (.putfield 9, 3) := by decide +kernel
theorem dX7_init_11 : decode cX7_init 11 = .ok (.aload_n 0, 1) := by decide +kernel
theorem dX7_init_12 : decode cX7_init 12 = .ok (.iload_n 1, 1) := by decide +kernel
theorem dX7_init_13 : decode cX7_init 13 = .ok (.newarray .long, 2) := by decide +kernel
theorem dX7_init_15 : decode cX7_init 15 = .ok (.putfield 15, 3) := by decide +kernel
theorem dX7_init_18 : decode cX7_init 18 = .ok (.return_, 1) := by decide +kernel
theorem dX7_start_0 : decode cX7_start 0 = .ok (.aload_n 0, 1) := by decide +kernel
theorem dX7_start_1 : decode cX7_start 1 = .ok (.iconst 0, 1) := by decide +kernel
theorem dX7_start_2 : decode cX7_start 2 = .ok (.putfield 19, 3) := by decide +kernel
theorem dX7_start_5 : decode cX7_start 5 = .ok (.return_, 1) := by decide +kernel
theorem dX7_offer_0 : decode cX7_offer 0 = .ok (.aload_n 0, 1) := by decide +kernel
theorem dX7_offer_1 : decode cX7_offer 1 = .ok (.getfield 19, 3) := by decide +kernel
theorem dX7_offer_4 : decode cX7_offer 4 = .ok (.aload_n 0, 1) := by decide +kernel
theorem dX7_offer_5 : decode cX7_offer 5 = .ok (.getfield 9, 3) := by decide +kernel
theorem dX7_offer_8 : decode cX7_offer 8 = .ok (.arraylength, 1) := by decide +kernel
theorem dX7_offer_9 : decode cX7_offer 9 = .ok (.if_icmp .lt 30, 3) := by decide +kernel
theorem dX7_offer_12 : decode cX7_offer 12 = .ok (.aload_n 0, 1) := by decide +kernel
theorem dX7_offer_13 : decode cX7_offer 13 = .ok (.getfield 15, 3) := by decide +kernel
theorem dX7_offer_16 : decode cX7_offer 16 = .ok (.aload_n 0, 1) := by decide +kernel
theorem dX7_offer_17 : decode cX7_offer 17 = .ok (.getfield 19, 3) := by decide +kernel
theorem dX7_offer_20 : decode cX7_offer 20 = .ok (.iconst 1, 1) := by decide +kernel
theorem dX7_offer_21 : decode cX7_offer 21 = .ok (.isub, 1) := by decide +kernel
theorem dX7_offer_22 : decode cX7_offer 22 = .ok (.laload, 1) := by decide +kernel
theorem dX7_offer_23 : decode cX7_offer 23 = .ok (.lload_n 2, 1) := by decide +kernel
theorem dX7_offer_24 : decode cX7_offer 24 = .ok (.lcmp, 1) := by decide +kernel
theorem dX7_offer_25 : decode cX7_offer 25 = .ok (.ifCond .lt 4, 3) := by decide +kernel
theorem dX7_offer_28 : decode cX7_offer 28 = .ok (.return_, 1) := by decide +kernel
theorem dX7_offer_29 : decode cX7_offer 29 = .ok (.aload_n 0, 1) := by decide +kernel
theorem dX7_offer_30 : decode cX7_offer 30 = .ok (.dup, 1) := by decide +kernel
theorem dX7_offer_31 : decode cX7_offer 31 = .ok (.getfield 19, 3) := by decide +kernel
theorem dX7_offer_34 : decode cX7_offer 34 = .ok (.iconst 1, 1) := by decide +kernel
theorem dX7_offer_35 : decode cX7_offer 35 = .ok (.isub, 1) := by decide +kernel
theorem dX7_offer_36 : decode cX7_offer 36 = .ok (.putfield 19, 3) := by decide +kernel
theorem dX7_offer_39 : decode cX7_offer 39 = .ok (.aload_n 0, 1) := by decide +kernel
theorem dX7_offer_40 : decode cX7_offer 40 = .ok (.getfield 19, 3) := by decide +kernel
theorem dX7_offer_43 : decode cX7_offer 43 = .ok (.istore 4, 2) := by decide +kernel
theorem dX7_offer_45 : decode cX7_offer 45 = .ok (.iload 4, 2) := by decide +kernel
theorem dX7_offer_47 : decode cX7_offer 47 = .ok (.ifCond .le 55, 3) := by decide +kernel
theorem dX7_offer_50 : decode cX7_offer 50 = .ok (.aload_n 0, 1) := by decide +kernel
theorem dX7_offer_51 : decode cX7_offer 51 = .ok (.getfield 15, 3) := by decide +kernel
theorem dX7_offer_54 : decode cX7_offer 54 = .ok (.iload 4, 2) := by decide +kernel
theorem dX7_offer_56 : decode cX7_offer 56 = .ok (.iconst 1, 1) := by decide +kernel
theorem dX7_offer_57 : decode cX7_offer 57 = .ok (.isub, 1) := by decide +kernel
theorem dX7_offer_58 : decode cX7_offer 58 = .ok (.laload, 1) := by decide +kernel
theorem dX7_offer_59 : decode cX7_offer 59 = .ok (.lload_n 2, 1) := by decide +kernel
theorem dX7_offer_60 : decode cX7_offer 60 = .ok (.lcmp, 1) := by decide +kernel
theorem dX7_offer_61 : decode cX7_offer 61 = .ok (.ifCond .ge 41, 3) := by decide +kernel
theorem dX7_offer_64 : decode cX7_offer 64 = .ok (.aload_n 0, 1) := by decide +kernel
theorem dX7_offer_65 : decode cX7_offer 65 = .ok (.getfield 9, 3) := by decide +kernel
theorem dX7_offer_68 : decode cX7_offer 68 = .ok (.iload 4, 2) := by decide +kernel
theorem dX7_offer_70 : decode cX7_offer 70 = .ok (.aload_n 0, 1) := by decide +kernel
theorem dX7_offer_71 : decode cX7_offer 71 = .ok (.getfield 9, 3) := by decide +kernel
theorem dX7_offer_74 : decode cX7_offer 74 = .ok (.iload 4, 2) := by decide +kernel
theorem dX7_offer_76 : decode cX7_offer 76 = .ok (.iconst 1, 1) := by decide +kernel
theorem dX7_offer_77 : decode cX7_offer 77 = .ok (.isub, 1) := by decide +kernel
theorem dX7_offer_78 : decode cX7_offer 78 = .ok (.iaload, 1) := by decide +kernel
theorem dX7_offer_79 : decode cX7_offer 79 = .ok (.iastore, 1) := by decide +kernel
theorem dX7_offer_80 : decode cX7_offer 80 = .ok (.aload_n 0, 1) := by decide +kernel
theorem dX7_offer_81 : decode cX7_offer 81 = .ok (.getfield 15, 3) := by decide +kernel
theorem dX7_offer_84 : decode cX7_offer 84 = .ok (.iload 4, 2) := by decide +kernel
theorem dX7_offer_86 : decode cX7_offer 86 = .ok (.aload_n 0, 1) := by decide +kernel
theorem dX7_offer_87 : decode cX7_offer 87 = .ok (.getfield 15, 3) := by decide +kernel
theorem dX7_offer_90 : decode cX7_offer 90 = .ok (.iload 4, 2) := by decide +kernel
theorem dX7_offer_92 : decode cX7_offer 92 = .ok (.iconst 1, 1) := by decide +kernel
theorem dX7_offer_93 : decode cX7_offer 93 = .ok (.isub, 1) := by decide +kernel
theorem dX7_offer_94 : decode cX7_offer 94 = .ok (.laload, 1) := by decide +kernel
theorem dX7_offer_95 : decode cX7_offer 95 = .ok (.lastore, 1) := by decide +kernel
theorem dX7_offer_96 : decode cX7_offer 96 = .ok (.iinc 4 (-1), 3) := by decide +kernel
theorem dX7_offer_99 : decode cX7_offer 99 = .ok (.goto (-54), 3) := by decide +kernel
theorem dX7_offer_102 : decode cX7_offer 102 = .ok (.aload_n 0, 1) := by decide +kernel
theorem dX7_offer_103 : decode cX7_offer 103 = .ok (.getfield 9, 3) := by decide +kernel
theorem dX7_offer_106 : decode cX7_offer 106 = .ok (.iload 4, 2) := by decide +kernel
theorem dX7_offer_108 : decode cX7_offer 108 = .ok (.iload_n 1, 1) := by decide +kernel
theorem dX7_offer_109 : decode cX7_offer 109 = .ok (.iastore, 1) := by decide +kernel
theorem dX7_offer_110 : decode cX7_offer 110 = .ok (.aload_n 0, 1) := by decide +kernel
theorem dX7_offer_111 : decode cX7_offer 111 = .ok (.getfield 15, 3) := by decide +kernel
theorem dX7_offer_114 : decode cX7_offer 114 = .ok (.iload 4, 2) := by decide +kernel
theorem dX7_offer_116 : decode cX7_offer 116 = .ok (.lload_n 2, 1) := by decide +kernel
theorem dX7_offer_117 : decode cX7_offer 117 = .ok (.lastore, 1) := by decide +kernel
theorem dX7_offer_118 : decode cX7_offer 118 = .ok (.aload_n 0, 1) := by decide +kernel
theorem dX7_offer_119 : decode cX7_offer 119 = .ok (.dup, 1) := by decide +kernel
theorem dX7_offer_120 : decode cX7_offer 120 = .ok (.getfield 19, 3) := by decide +kernel
theorem dX7_offer_123 : decode cX7_offer 123 = .ok (.iconst 1, 1) := by decide +kernel
theorem dX7_offer_124 : decode cX7_offer 124 = .ok (.iadd, 1) := by decide +kernel
theorem dX7_offer_125 : decode cX7_offer 125 = .ok (.putfield 19, 3) := by decide +kernel
theorem dX7_offer_128 : decode cX7_offer 128 = .ok (.return_, 1) := by decide +kernel
theorem dX7_tell_0 : decode cX7_tell 0 = .ok (.iload_n 1, 1) := by decide +kernel
theorem dX7_tell_1 : decode cX7_tell 1 = .ok (.ifCond .lt 11, 3) := by decide +kernel
theorem dX7_tell_4 : decode cX7_tell 4 = .ok (.iload_n 1, 1) := by decide +kernel
theorem dX7_tell_5 : decode cX7_tell 5 = .ok (.aload_n 0, 1) := by decide +kernel
theorem dX7_tell_6 : decode cX7_tell 6 = .ok (.getfield 19, 3) := by decide +kernel
theorem dX7_tell_9 : decode cX7_tell 9 = .ok (.if_icmp .lt 7, 3) := by decide +kernel
theorem dX7_tell_12 : decode cX7_tell 12 = .ok (.ldc2_w 23, 3) := by decide +kernel
theorem dX7_tell_15 : decode cX7_tell 15 = .ok (.lreturn, 1) := by decide +kernel
theorem dX7_tell_16 : decode cX7_tell 16 = .ok (.iload_n 2, 1) := by decide +kernel
theorem dX7_tell_17 : decode cX7_tell 17 = .ok (.lookupswitch 42 #[(0, 27), (1, 35)], 27) := by decide +kernel
theorem dX7_tell_44 : decode cX7_tell 44 = .ok (.aload_n 0, 1) := by decide +kernel
theorem dX7_tell_45 : decode cX7_tell 45 = .ok (.getfield 9, 3) := by decide +kernel
theorem dX7_tell_48 : decode cX7_tell 48 = .ok (.iload_n 1, 1) := by decide +kernel
theorem dX7_tell_49 : decode cX7_tell 49 = .ok (.iaload, 1) := by decide +kernel
theorem dX7_tell_50 : decode cX7_tell 50 = .ok (.i2l, 1) := by decide +kernel
theorem dX7_tell_51 : decode cX7_tell 51 = .ok (.lreturn, 1) := by decide +kernel
theorem dX7_tell_52 : decode cX7_tell 52 = .ok (.aload_n 0, 1) := by decide +kernel
theorem dX7_tell_53 : decode cX7_tell 53 = .ok (.getfield 15, 3) := by decide +kernel
theorem dX7_tell_56 : decode cX7_tell 56 = .ok (.iload_n 1, 1) := by decide +kernel
theorem dX7_tell_57 : decode cX7_tell 57 = .ok (.laload, 1) := by decide +kernel
theorem dX7_tell_58 : decode cX7_tell 58 = .ok (.lreturn, 1) := by decide +kernel
theorem dX7_tell_59 : decode cX7_tell 59 = .ok (.ldc2_w 23, 3) := by decide +kernel
theorem dX7_tell_62 : decode cX7_tell 62 = .ok (.lreturn, 1) := by decide +kernel
theorem dX8_init_0 : decode cX8_init 0 = .ok (.aload_n 0, 1) := by decide +kernel
theorem dX8_init_1 : decode cX8_init 1 = .ok (.invokespecial 1, 3) := by decide +kernel
theorem dX8_init_4 : decode cX8_init 4 = .ok (.aload_n 0, 1) := by decide +kernel
theorem dX8_init_5 : decode cX8_init 5 = .ok (.new 7, 3) := by decide +kernel
theorem dX8_init_8 : decode cX8_init 8 = .ok (.dup, 1) := by decide +kernel
theorem dX8_init_9 : decode cX8_init 9 = .ok (.iload_n 1, 1) := by decide +kernel
theorem dX8_init_10 : decode cX8_init 10 = .ok (.iload_n 2, 1) := by decide +kernel
theorem dX8_init_11 : decode cX8_init 11 = .ok (.invokespecial 9, 3) := by decide +kernel
theorem dX8_init_14 : decode cX8_init 14 = .ok (.putfield 12, 3) := by decide +kernel
theorem dX8_init_17 : decode cX8_init 17 = .ok (.return_, 1) := by decide +kernel
theorem dX8_least_0 : decode cX8_least 0 = .ok (.aload_n 0, 1) := by decide +kernel
theorem dX8_least_1 : decode cX8_least 1 = .ok (.getfield 12, 3) := by decide +kernel
theorem dX8_least_4 : decode cX8_least 4 = .ok (.invokevirtual 18, 3) := by decide +kernel
theorem dX8_least_7 : decode cX8_least 7 = .ok (.ifCond .eq 15, 3) := by decide +kernel
theorem dX8_least_10 : decode cX8_least 10 = .ok (.aload_n 0, 1) := by decide +kernel
theorem dX8_least_11 : decode cX8_least 11 = .ok (.getfield 12, 3) := by decide +kernel
theorem dX8_least_14 : decode cX8_least 14 = .ok (.getfield 22, 3) := by decide +kernel
theorem dX8_least_17 : decode cX8_least 17 = .ok (.iconst 0, 1) := by decide +kernel
theorem dX8_least_18 : decode cX8_least 18 = .ok (.laload, 1) := by decide +kernel
theorem dX8_least_19 : decode cX8_least 19 = .ok (.goto 4, 3) := by decide +kernel
theorem dX8_least_22 : decode cX8_least 22 = .ok (.lconst 0, 1) := by decide +kernel
theorem dX8_least_23 : decode cX8_least 23 = .ok (.lreturn, 1) := by decide +kernel
theorem dX8_guess_0 : decode cX8_guess 0 = .ok (.aload_n 0, 1) := by decide +kernel
theorem dX8_guess_1 : decode cX8_guess 1 = .ok (.getfield 12, 3) := by decide +kernel
theorem dX8_guess_4 : decode cX8_guess 4 = .ok (.iload_n 1, 1) := by decide +kernel
theorem dX8_guess_5 : decode cX8_guess 5 = .ok (.invokevirtual 26, 3) := by decide +kernel
theorem dX8_guess_8 : decode cX8_guess 8 = .ok (.istore_n 2, 1) := by decide +kernel
theorem dX8_guess_9 : decode cX8_guess 9 = .ok (.iload_n 2, 1) := by decide +kernel
theorem dX8_guess_10 : decode cX8_guess 10 = .ok (.ifCond .ge 10, 3) := by decide +kernel
theorem dX8_guess_13 : decode cX8_guess 13 = .ok (.aload_n 0, 1) := by decide +kernel
theorem dX8_guess_14 : decode cX8_guess 14 = .ok (.invokevirtual 30, 3) := by decide +kernel
theorem dX8_guess_17 : decode cX8_guess 17 = .ok (.goto 12, 3) := by decide +kernel
theorem dX8_guess_20 : decode cX8_guess 20 = .ok (.aload_n 0, 1) := by decide +kernel
theorem dX8_guess_21 : decode cX8_guess 21 = .ok (.getfield 12, 3) := by decide +kernel
theorem dX8_guess_24 : decode cX8_guess 24 = .ok (.getfield 22, 3) := by decide +kernel
theorem dX8_guess_27 : decode cX8_guess 27 = .ok (.iload_n 2, 1) := by decide +kernel
theorem dX8_guess_28 : decode cX8_guess 28 = .ok (.laload, 1) := by decide +kernel
theorem dX8_guess_29 : decode cX8_guess 29 = .ok (.lreturn, 1) := by decide +kernel
theorem dX8_low_0 : decode cX8_low 0 = .ok (.aload_n 0, 1) := by decide +kernel
theorem dX8_low_1 : decode cX8_low 1 = .ok (.getfield 12, 3) := by decide +kernel
theorem dX8_low_4 : decode cX8_low 4 = .ok (.iload_n 1, 1) := by decide +kernel
theorem dX8_low_5 : decode cX8_low 5 = .ok (.invokevirtual 26, 3) := by decide +kernel
theorem dX8_low_8 : decode cX8_low 8 = .ok (.istore_n 2, 1) := by decide +kernel
theorem dX8_low_9 : decode cX8_low 9 = .ok (.iload_n 2, 1) := by decide +kernel
theorem dX8_low_10 : decode cX8_low 10 = .ok (.ifCond .ge 7, 3) := by decide +kernel
theorem dX8_low_13 : decode cX8_low 13 = .ok (.lconst 0, 1) := by decide +kernel
theorem dX8_low_14 : decode cX8_low 14 = .ok (.goto 22, 3) := by decide +kernel
theorem dX8_low_17 : decode cX8_low 17 = .ok (.aload_n 0, 1) := by decide +kernel
theorem dX8_low_18 : decode cX8_low 18 = .ok (.getfield 12, 3) := by decide +kernel
theorem dX8_low_21 : decode cX8_low 21 = .ok (.getfield 22, 3) := by decide +kernel
theorem dX8_low_24 : decode cX8_low 24 = .ok (.iload_n 2, 1) := by decide +kernel
theorem dX8_low_25 : decode cX8_low 25 = .ok (.laload, 1) := by decide +kernel
theorem dX8_low_26 : decode cX8_low 26 = .ok (.aload_n 0, 1) := by decide +kernel
theorem dX8_low_27 : decode cX8_low 27 = .ok (.getfield 12, 3) := by decide +kernel
theorem dX8_low_30 : decode cX8_low 30 = .ok (.getfield 34, 3) := by decide +kernel
theorem dX8_low_33 : decode cX8_low 33 = .ok (.iload_n 2, 1) := by decide +kernel
theorem dX8_low_34 : decode cX8_low 34 = .ok (.laload, 1) := by decide +kernel
theorem dX8_low_35 : decode cX8_low 35 = .ok (.lsub, 1) := by decide +kernel
theorem dX8_low_36 : decode cX8_low 36 = .ok (.lreturn, 1) := by decide +kernel
theorem dX8_high_0 : decode cX8_high 0 = .ok (.aload_n 0, 1) := by decide +kernel
theorem dX8_high_1 : decode cX8_high 1 = .ok (.iload_n 1, 1) := by decide +kernel
theorem dX8_high_2 : decode cX8_high 2 = .ok (.invokevirtual 37, 3) := by decide +kernel
theorem dX8_high_5 : decode cX8_high 5 = .ok (.lreturn, 1) := by decide +kernel
theorem dX8_take_0 : decode cX8_take 0 = .ok (.aload_n 0, 1) := by decide +kernel
theorem dX8_take_1 : decode cX8_take 1 = .ok (.getfield 12, 3) := by decide +kernel
theorem dX8_take_4 : decode cX8_take 4 = .ok (.iload_n 1, 1) := by decide +kernel
theorem dX8_take_5 : decode cX8_take 5 = .ok (.invokevirtual 26, 3) := by decide +kernel
theorem dX8_take_8 : decode cX8_take 8 = .ok (.istore_n 3, 1) := by decide +kernel
theorem dX8_take_9 : decode cX8_take 9 = .ok (.iload_n 3, 1) := by decide +kernel
theorem dX8_take_10 : decode cX8_take 10 = .ok (.ifCond .ge 10, 3) := by decide +kernel
theorem dX8_take_13 : decode cX8_take 13 = .ok (.aload_n 0, 1) := by decide +kernel
theorem dX8_take_14 : decode cX8_take 14 = .ok (.invokevirtual 30, 3) := by decide +kernel
theorem dX8_take_17 : decode cX8_take 17 = .ok (.goto 12, 3) := by decide +kernel
theorem dX8_take_20 : decode cX8_take 20 = .ok (.aload_n 0, 1) := by decide +kernel
theorem dX8_take_21 : decode cX8_take 21 = .ok (.getfield 12, 3) := by decide +kernel
theorem dX8_take_24 : decode cX8_take 24 = .ok (.getfield 22, 3) := by decide +kernel
theorem dX8_take_27 : decode cX8_take 27 = .ok (.iload_n 3, 1) := by decide +kernel
theorem dX8_take_28 : decode cX8_take 28 = .ok (.laload, 1) := by decide +kernel
theorem dX8_take_29 : decode cX8_take 29 = .ok (.lstore 4, 2) := by decide +kernel
theorem dX8_take_31 : decode cX8_take 31 = .ok (.iload_n 3, 1) := by decide +kernel
theorem dX8_take_32 : decode cX8_take 32 = .ok (.ifCond .ge 8, 3) := by decide +kernel
theorem dX8_take_35 : decode cX8_take 35 = .ok (.lload 4, 2) := by decide +kernel
theorem dX8_take_37 : decode cX8_take 37 = .ok (.goto 12, 3) := by decide +kernel
theorem dX8_take_40 : decode cX8_take 40 = .ok (.aload_n 0, 1) := by decide +kernel
theorem dX8_take_41 : decode cX8_take 41 = .ok (.getfield 12, 3) := by decide +kernel
theorem dX8_take_44 : decode cX8_take 44 = .ok (.getfield 34, 3) := by decide +kernel
theorem dX8_take_47 : decode cX8_take 47 = .ok (.iload_n 3, 1) := by decide +kernel
theorem dX8_take_48 : decode cX8_take 48 = .ok (.laload, 1) := by decide +kernel
theorem dX8_take_49 : decode cX8_take 49 = .ok (.lstore 6, 2) := by decide +kernel
theorem dX8_take_51 : decode cX8_take 51 = .ok (.iload_n 3, 1) := by decide +kernel
theorem dX8_take_52 : decode cX8_take 52 = .ok (.ifCond .ge 15, 3) := by decide +kernel
theorem dX8_take_55 : decode cX8_take 55 = .ok (.aload_n 0, 1) := by decide +kernel
theorem dX8_take_56 : decode cX8_take 56 = .ok (.getfield 12, 3) := by decide +kernel
theorem dX8_take_59 : decode cX8_take 59 = .ok (.invokevirtual 18, 3) := by decide +kernel
theorem dX8_take_62 : decode cX8_take 62 = .ok (.ifCond .eq 5, 3) := by decide +kernel
theorem dX8_take_65 : decode cX8_take 65 = .ok (.iconst 0, 1) := by decide +kernel
theorem dX8_take_66 : decode cX8_take 66 = .ok (.istore_n 3, 1) := by decide +kernel
theorem dX8_take_67 : decode cX8_take 67 = .ok (.iload_n 3, 1) := by decide +kernel
theorem dX8_take_68 : decode cX8_take 68 = .ok (.ifCond .lt 11, 3) := by decide +kernel
theorem dX8_take_71 : decode cX8_take 71 = .ok (.aload_n 0, 1) := by decide +kernel
theorem dX8_take_72 : decode cX8_take 72 = .ok (.getfield 12, 3) := by decide +kernel
theorem dX8_take_75 : decode cX8_take 75 = .ok (.iload_n 3, 1) := by decide +kernel
theorem dX8_take_76 : decode cX8_take 76 = .ok (.invokevirtual 41, 3) := by decide +kernel
theorem dX8_take_79 : decode cX8_take 79 = .ok (.lload 4, 2) := by decide +kernel
theorem dX8_take_81 : decode cX8_take 81 = .ok (.iload_n 2, 1) := by decide +kernel
theorem dX8_take_82 : decode cX8_take 82 = .ok (.i2l, 1) := by decide +kernel
theorem dX8_take_83 : decode cX8_take 83 = .ok (.ladd, 1) := by decide +kernel
theorem dX8_take_84 : decode cX8_take 84 = .ok (.lstore 8, 2) := by decide +kernel
theorem dX8_take_86 : decode cX8_take 86 = .ok (.aload_n 0, 1) := by decide +kernel
theorem dX8_take_87 : decode cX8_take 87 = .ok (.getfield 12, 3) := by decide +kernel
theorem dX8_take_90 : decode cX8_take 90 = .ok (.aload_n 0, 1) := by decide +kernel
theorem dX8_take_91 : decode cX8_take 91 = .ok (.lload 8, 2) := by decide +kernel
theorem dX8_take_93 : decode cX8_take 93 = .ok (.invokevirtual 45, 3) := by decide +kernel
theorem dX8_take_96 : decode cX8_take 96 = .ok (.iload_n 1, 1) := by decide +kernel
theorem dX8_take_97 : decode cX8_take 97 = .ok (.lload 8, 2) := by decide +kernel
theorem dX8_take_99 : decode cX8_take 99 = .ok (.lload 6, 2) := by decide +kernel
theorem dX8_take_101 : decode cX8_take 101 = .ok (.invokevirtual 49, 3) := by decide +kernel
theorem dX8_take_104 : decode cX8_take 104 = .ok (.return_, 1) := by decide +kernel
theorem dX8_placeBehind_0 : decode cX8_placeBehind 0 = .ok (.iconst 0, 1) := by decide +kernel
theorem dX8_placeBehind_1 : decode cX8_placeBehind 1 = .ok (.istore_n 3, 1) := by decide +kernel
theorem dX8_placeBehind_2 : decode cX8_placeBehind 2 = .ok (.iload_n 3, 1) := by decide +kernel
theorem dX8_placeBehind_3 : decode cX8_placeBehind 3 = .ok (.aload_n 0, 1) := by decide +kernel
theorem dX8_placeBehind_4 : decode cX8_placeBehind 4 = .ok (.getfield 12, 3) := by decide +kernel
theorem dX8_placeBehind_7 : decode cX8_placeBehind 7 = .ok (.getfield 53, 3) := by decide +kernel
theorem dX8_placeBehind_10 : decode cX8_placeBehind 10 = .ok (.if_icmp .ge 23, 3) := by decide +kernel
theorem dX8_placeBehind_13 : decode cX8_placeBehind 13 = .ok (.aload_n 0, 1) := by decide +kernel
theorem dX8_placeBehind_14 : decode cX8_placeBehind 14 = .ok (.getfield 12, 3) := by decide +kernel
theorem dX8_placeBehind_17 : decode cX8_placeBehind 17 = .ok (.getfield 22, 3) := by decide +kernel
theorem dX8_placeBehind_20 : decode cX8_placeBehind 20 = .ok (.iload_n 3, 1) := by decide +kernel
theorem dX8_placeBehind_21 : decode cX8_placeBehind 21 = .ok (.laload, 1) := by decide +kernel
theorem dX8_placeBehind_22 : decode cX8_placeBehind 22 = .ok (.lload_n 1, 1) := by decide +kernel
theorem dX8_placeBehind_23 : decode cX8_placeBehind 23 = .ok (.lcmp, 1) := by decide +kernel
theorem dX8_placeBehind_24 : decode cX8_placeBehind 24 = .ok (.ifCond .gt 9, 3) := by decide +kernel
theorem dX8_placeBehind_27 : decode cX8_placeBehind 27 = .ok (.iinc 3 1, 3) := by decide +kernel
theorem dX8_placeBehind_30 : decode cX8_placeBehind 30 = .ok (.goto (-28), 3) := by decide +kernel
theorem dX8_placeBehind_33 : decode cX8_placeBehind 33 = .ok (.iload_n 3, 1) := by decide +kernel
theorem dX8_placeBehind_34 : decode cX8_placeBehind 34 = .ok (.ireturn, 1) := by decide +kernel
theorem dX8_makeEmpty_0 : decode cX8_makeEmpty 0 = .ok (.aload_n 0, 1) := by decide +kernel
theorem dX8_makeEmpty_1 : decode cX8_makeEmpty 1 = .ok (.getfield 12, 3) := by decide +kernel
theorem dX8_makeEmpty_4 : decode cX8_makeEmpty 4 = .ok (.invokevirtual 57, 3) := by decide +kernel
theorem dX8_makeEmpty_7 : decode cX8_makeEmpty 7 = .ok (.return_, 1) := by decide +kernel
theorem dX8_become_0 : decode cX8_become 0 = .ok (.aload_n 0, 1) := by decide +kernel
theorem dX8_become_1 : decode cX8_become 1 = .ok (.getfield 12, 3) := by decide +kernel
theorem dX8_become_4 : decode cX8_become 4 = .ok (.aload_n 1, 1) := by decide +kernel
theorem dX8_become_5 : decode cX8_become 5 = .ok (.getfield 12, 3) := by decide +kernel
theorem dX8_become_8 : decode cX8_become 8 = .ok (.invokevirtual 60, 3) := by decide +kernel
theorem dX8_become_11 : decode cX8_become 11 = .ok (.return_, 1) := by decide +kernel
theorem dX8_putTogether_0 : decode cX8_putTogether 0 = .ok (.aload_n 0, 1) := by decide +kernel
theorem dX8_putTogether_1 : decode cX8_putTogether 1 = .ok (.invokevirtual 30, 3) := by decide +kernel
theorem dX8_putTogether_4 : decode cX8_putTogether 4 = .ok (.lstore_n 2, 1) := by decide +kernel
theorem dX8_putTogether_5 : decode cX8_putTogether 5 = .ok (.aload_n 1, 1) := by decide +kernel
theorem dX8_putTogether_6 : decode cX8_putTogether 6 = .ok (.invokevirtual 30, 3) := by decide +kernel
theorem dX8_putTogether_9 : decode cX8_putTogether 9 = .ok (.lstore 4, 2) := by decide +kernel
theorem dX8_putTogether_11 : decode cX8_putTogether 11 = .ok (.iconst 0, 1) := by decide +kernel
theorem dX8_putTogether_12 : decode cX8_putTogether 12 = .ok (.istore 6, 2) := by decide +kernel
theorem dX8_putTogether_14 : decode cX8_putTogether 14 = .ok (.iload 6, 2) := by decide +kernel
theorem dX8_putTogether_16 : decode cX8_putTogether 16 = .ok (.aload_n 0, 1) := by decide +kernel
theorem dX8_putTogether_17 : decode cX8_putTogether 17 = .ok (.getfield 12, 3) := by decide +kernel
theorem dX8_putTogether_20 : decode cX8_putTogether 20 = .ok (.getfield 53, 3) := by decide +kernel
theorem dX8_putTogether_23 : decode cX8_putTogether 23 = .ok (.if_icmp .ge 94, 3) := by decide +kernel
theorem dX8_putTogether_26 : decode cX8_putTogether 26 = .ok (.aload_n 1, 1) := by decide +kernel
theorem dX8_putTogether_27 : decode cX8_putTogether 27 = .ok (.getfield 12, 3) := by decide +kernel
theorem dX8_putTogether_30 : decode cX8_putTogether 30 = .ok (.aload_n 0, 1) := by decide +kernel
theorem dX8_putTogether_31 : decode cX8_putTogether 31 = .ok (.getfield 12, 3) := by decide +kernel
theorem dX8_putTogether_34 : decode cX8_putTogether 34 = .ok (.getfield 64, 3) := by decide +kernel
theorem dX8_putTogether_37 : decode cX8_putTogether 37 = .ok (.iload 6, 2) := by decide +kernel
theorem dX8_putTogether_39 : decode cX8_putTogether 39 = .ok (.iaload, 1) := by decide +kernel
theorem dX8_putTogether_40 : decode cX8_putTogether 40 = .ok (.invokevirtual 26, 3) := by decide +kernel
theorem dX8_putTogether_43 : decode cX8_putTogether 43 = .ok (.istore 7, 2) := by decide +kernel
theorem dX8_putTogether_45 : decode cX8_putTogether 45 = .ok (.aload_n 0, 1) := by decide +kernel
theorem dX8_putTogether_46 : decode cX8_putTogether 46 = .ok (.getfield 12, 3) := by decide +kernel
theorem dX8_putTogether_49 : decode cX8_putTogether 49 = .ok (.getfield 22, 3) := by decide +kernel
theorem dX8_putTogether_52 : decode cX8_putTogether 52 = .ok (.iload 6, 2) := by decide +kernel
theorem dX8_putTogether_54 : decode cX8_putTogether 54 = .ok (.dup2, 1) := by decide +kernel
theorem dX8_putTogether_55 : decode cX8_putTogether 55 = .ok (.laload, 1) := by decide +kernel
theorem dX8_putTogether_56 : decode cX8_putTogether 56 = .ok (.iload 7, 2) := by decide +kernel
theorem dX8_putTogether_58 : decode cX8_putTogether 58 = .ok (.ifCond .ge 8, 3) := by decide +kernel
theorem dX8_putTogether_61 : decode cX8_putTogether 61 = .ok (.lload 4, 2) := by decide +kernel
theorem dX8_putTogether_63 : decode cX8_putTogether 63 = .ok (.goto 13, 3) := by decide +kernel
theorem dX8_putTogether_66 : decode cX8_putTogether 66 = .ok (.aload_n 1, 1) := by decide +kernel
theorem dX8_putTogether_67 : decode cX8_putTogether 67 = .ok (.getfield 12, 3) := by decide +kernel
theorem dX8_putTogether_70 : decode cX8_putTogether 70 = .ok (.getfield 22, 3) := by decide +kernel
theorem dX8_putTogether_73 : decode cX8_putTogether 73 = .ok (.iload 7, 2) := by decide +kernel
theorem dX8_putTogether_75 : decode cX8_putTogether 75 = .ok (.laload, 1) := by decide +kernel
theorem dX8_putTogether_76 : decode cX8_putTogether 76 = .ok (.ladd, 1) := by decide +kernel
theorem dX8_putTogether_77 : decode cX8_putTogether 77 = .ok (.lastore, 1) := by decide +kernel
theorem dX8_putTogether_78 : decode cX8_putTogether 78 = .ok (.aload_n 0, 1) := by decide +kernel
theorem dX8_putTogether_79 : decode cX8_putTogether 79 = .ok (.getfield 12, 3) := by decide +kernel
theorem dX8_putTogether_82 : decode cX8_putTogether 82 = .ok (.getfield 34, 3) := by decide +kernel
theorem dX8_putTogether_85 : decode cX8_putTogether 85 = .ok (.iload 6, 2) := by decide +kernel
theorem dX8_putTogether_87 : decode cX8_putTogether 87 = .ok (.dup2, 1) := by decide +kernel
theorem dX8_putTogether_88 : decode cX8_putTogether 88 = .ok (.laload, 1) := by decide +kernel
theorem dX8_putTogether_89 : decode cX8_putTogether 89 = .ok (.iload 7, 2) := by decide +kernel
theorem dX8_putTogether_91 : decode cX8_putTogether 91 = .ok (.ifCond .ge 8, 3) := by decide +kernel
theorem dX8_putTogether_94 : decode cX8_putTogether 94 = .ok (.lload 4, 2) := by decide +kernel
theorem dX8_putTogether_96 : decode cX8_putTogether 96 = .ok (.goto 13, 3) := by decide +kernel
theorem dX8_putTogether_99 : decode cX8_putTogether 99 = .ok (.aload_n 1, 1) := by decide +kernel
theorem dX8_putTogether_100 : decode cX8_putTogether 100 = .ok (.getfield 12, 3) := by decide +kernel
theorem dX8_putTogether_103 : decode cX8_putTogether 103 = .ok (.getfield 34, 3) := by decide +kernel
theorem dX8_putTogether_106 : decode cX8_putTogether 106 = .ok (.iload 7, 2) := by decide +kernel
theorem dX8_putTogether_108 : decode cX8_putTogether 108 = .ok (.laload, 1) := by decide +kernel
theorem dX8_putTogether_109 : decode cX8_putTogether 109 = .ok (.ladd, 1) := by decide +kernel
theorem dX8_putTogether_110 : decode cX8_putTogether 110 = .ok (.lastore, 1) := by decide +kernel
theorem dX8_putTogether_111 : decode cX8_putTogether 111 = .ok (.iinc 6 1, 3) := by decide +kernel
theorem dX8_putTogether_114 : decode cX8_putTogether 114 = .ok (.goto (-100), 3) := by decide +kernel
theorem dX8_putTogether_117 : decode cX8_putTogether 117 = .ok (.aload_n 1, 1) := by decide +kernel
theorem dX8_putTogether_118 : decode cX8_putTogether 118 = .ok (.getfield 12, 3) := by decide +kernel
theorem dX8_putTogether_121 : decode cX8_putTogether 121 = .ok (.getfield 53, 3) := by decide +kernel
theorem dX8_putTogether_124 : decode cX8_putTogether 124 = .ok (.istore 6, 2) := by decide +kernel
theorem dX8_putTogether_126 : decode cX8_putTogether 126 = .ok (.iconst 0, 1) := by decide +kernel
theorem dX8_putTogether_127 : decode cX8_putTogether 127 = .ok (.istore 7, 2) := by decide +kernel
theorem dX8_putTogether_129 : decode cX8_putTogether 129 = .ok (.iload 7, 2) := by decide +kernel
theorem dX8_putTogether_131 : decode cX8_putTogether 131 = .ok (.iload 6, 2) := by decide +kernel
theorem dX8_putTogether_133 : decode cX8_putTogether 133 = .ok (.if_icmp .ge 66, 3) := by decide +kernel
theorem dX8_putTogether_136 : decode cX8_putTogether 136 = .ok (.aload_n 1, 1) := by decide +kernel
theorem dX8_putTogether_137 : decode cX8_putTogether 137 = .ok (.getfield 12, 3) := by decide +kernel
theorem dX8_putTogether_140 : decode cX8_putTogether 140 = .ok (.getfield 64, 3) := by decide +kernel
theorem dX8_putTogether_143 : decode cX8_putTogether 143 = .ok (.iload 7, 2) := by decide +kernel
theorem dX8_putTogether_145 : decode cX8_putTogether 145 = .ok (.iaload, 1) := by decide +kernel
theorem dX8_putTogether_146 : decode cX8_putTogether 146 = .ok (.istore 8, 2) := by decide +kernel
theorem dX8_putTogether_148 : decode cX8_putTogether 148 = .ok (.aload_n 0, 1) := by decide +kernel
theorem dX8_putTogether_149 : decode cX8_putTogether 149 = .ok (.getfield 12, 3) := by decide +kernel
theorem dX8_putTogether_152 : decode cX8_putTogether 152 = .ok (.iload 8, 2) := by decide +kernel
theorem dX8_putTogether_154 : decode cX8_putTogether 154 = .ok (.invokevirtual 26, 3) := by decide +kernel
theorem dX8_putTogether_157 : decode cX8_putTogether 157 = .ok (.ifCond .ge 36, 3) := by decide +kernel
theorem dX8_putTogether_160 : decode cX8_putTogether 160 = .ok (.aload_n 0, 1) := by decide +kernel
theorem dX8_putTogether_161 : decode cX8_putTogether 161 = .ok (.getfield 12, 3) := by decide +kernel
theorem dX8_putTogether_164 : decode cX8_putTogether 164 = .ok (.iload 8, 2) := by decide +kernel
theorem dX8_putTogether_166 : decode cX8_putTogether 166 = .ok (.aload_n 1, 1) := by decide +kernel
theorem dX8_putTogether_167 : decode cX8_putTogether 167 = .ok (.getfield 12, 3) := by decide +kernel
theorem dX8_putTogether_170 : decode cX8_putTogether 170 = .ok (.getfield 22, 3) := by decide +kernel
theorem dX8_putTogether_173 : decode cX8_putTogether 173 = .ok (.iload 7, 2) := by decide +kernel
theorem dX8_putTogether_175 : decode cX8_putTogether 175 = .ok (.laload, 1) := by decide +kernel
theorem dX8_putTogether_176 : decode cX8_putTogether 176 = .ok (.lload_n 2, 1) := by decide +kernel
theorem dX8_putTogether_177 : decode cX8_putTogether 177 = .ok (.ladd, 1) := by decide +kernel
theorem dX8_putTogether_178 : decode cX8_putTogether 178 = .ok (.aload_n 1, 1) := by decide +kernel
theorem dX8_putTogether_179 : decode cX8_putTogether 179 = .ok (.getfield 12, 3) := by decide +kernel
theorem dX8_putTogether_182 : decode cX8_putTogether 182 = .ok (.getfield 34, 3) := by decide +kernel
theorem dX8_putTogether_185 : decode cX8_putTogether 185 = .ok (.iload 7, 2) := by decide +kernel
theorem dX8_putTogether_187 : decode cX8_putTogether 187 = .ok (.laload, 1) := by decide +kernel
theorem dX8_putTogether_188 : decode cX8_putTogether 188 = .ok (.lload_n 2, 1) := by decide +kernel
theorem dX8_putTogether_189 : decode cX8_putTogether 189 = .ok (.ladd, 1) := by decide +kernel
theorem dX8_putTogether_190 : decode cX8_putTogether 190 = .ok (.invokevirtual 68, 3) := by decide +kernel
theorem dX8_putTogether_193 : decode cX8_putTogether 193 = .ok (.iinc 7 1, 3) := by decide +kernel
theorem dX8_putTogether_196 : decode cX8_putTogether 196 = .ok (.goto (-67), 3) := by decide +kernel
theorem dX8_putTogether_199 : decode cX8_putTogether 199 = .ok (.aload_n 0, 1) := by decide +kernel
theorem dX8_putTogether_200 : decode cX8_putTogether 200 = .ok (.getfield 12, 3) := by decide +kernel
theorem dX8_putTogether_203 : decode cX8_putTogether 203 = .ok (.getfield 53, 3) := by decide +kernel
theorem dX8_putTogether_206 : decode cX8_putTogether 206 = .ok (.aload_n 0, 1) := by decide +kernel
theorem dX8_putTogether_207 : decode cX8_putTogether 207 = .ok (.getfield 12, 3) := by decide +kernel
theorem dX8_putTogether_210 : decode cX8_putTogether 210 = .ok (.getfield 72, 3) := by decide +kernel
theorem dX8_putTogether_213 : decode cX8_putTogether 213 = .ok (.isub, 1) := by decide +kernel
theorem dX8_putTogether_214 : decode cX8_putTogether 214 = .ok (.istore 7, 2) := by decide +kernel
theorem dX8_putTogether_216 : decode cX8_putTogether 216 = .ok (.iload 7, 2) := by decide +kernel
theorem dX8_putTogether_218 : decode cX8_putTogether 218 = .ok (.ifCond .le 20, 3) := by decide +kernel
theorem dX8_putTogether_221 : decode cX8_putTogether 221 = .ok (.aload_n 0, 1) := by decide +kernel
theorem dX8_putTogether_222 : decode cX8_putTogether 222 = .ok (.getfield 12, 3) := by decide +kernel
theorem dX8_putTogether_225 : decode cX8_putTogether 225 = .ok (.aload_n 0, 1) := by decide +kernel
theorem dX8_putTogether_226 : decode cX8_putTogether 226 = .ok (.invokevirtual 75, 3) := by decide +kernel
theorem dX8_putTogether_229 : decode cX8_putTogether 229 = .ok (.invokevirtual 41, 3) := by decide +kernel
theorem dX8_putTogether_232 : decode cX8_putTogether 232 = .ok (.iinc 7 (-1), 3) := by decide +kernel
theorem dX8_putTogether_235 : decode cX8_putTogether 235 = .ok (.goto (-19), 3) := by decide +kernel
theorem dX8_putTogether_238 : decode cX8_putTogether 238 = .ok (.aload_n 0, 1) := by decide +kernel
theorem dX8_putTogether_239 : decode cX8_putTogether 239 = .ok (.getfield 12, 3) := by decide +kernel
theorem dX8_putTogether_242 : decode cX8_putTogether 242 = .ok (.invokevirtual 79, 3) := by decide +kernel
theorem dX8_putTogether_245 : decode cX8_putTogether 245 = .ok (.return_, 1) := by decide +kernel
theorem dX8_weakest_0 : decode cX8_weakest 0 = .ok (.iconst 0, 1) := by decide +kernel
theorem dX8_weakest_1 : decode cX8_weakest 1 = .ok (.istore_n 1, 1) := by decide +kernel
theorem dX8_weakest_2 : decode cX8_weakest 2 = .ok (.iconst 1, 1) := by decide +kernel
theorem dX8_weakest_3 : decode cX8_weakest 3 = .ok (.istore_n 2, 1) := by decide +kernel
theorem dX8_weakest_4 : decode cX8_weakest 4 = .ok (.iload_n 2, 1) := by decide +kernel
theorem dX8_weakest_5 : decode cX8_weakest 5 = .ok (.aload_n 0, 1) := by decide +kernel
theorem dX8_weakest_6 : decode cX8_weakest 6 = .ok (.getfield 12, 3) := by decide +kernel
theorem dX8_weakest_9 : decode cX8_weakest 9 = .ok (.getfield 53, 3) := by decide +kernel
theorem dX8_weakest_12 : decode cX8_weakest 12 = .ok (.if_icmp .ge 64, 3) := by decide +kernel
theorem dX8_weakest_15 : decode cX8_weakest 15 = .ok (.aload_n 0, 1) := by decide +kernel
theorem dX8_weakest_16 : decode cX8_weakest 16 = .ok (.getfield 12, 3) := by decide +kernel
theorem dX8_weakest_19 : decode cX8_weakest 19 = .ok (.getfield 22, 3) := by decide +kernel
theorem dX8_weakest_22 : decode cX8_weakest 22 = .ok (.iload_n 1, 1) := by decide +kernel
theorem dX8_weakest_23 : decode cX8_weakest 23 = .ok (.laload, 1) := by decide +kernel
theorem dX8_weakest_24 : decode cX8_weakest 24 = .ok (.aload_n 0, 1) := by decide +kernel
theorem dX8_weakest_25 : decode cX8_weakest 25 = .ok (.getfield 12, 3) := by decide +kernel
theorem dX8_weakest_28 : decode cX8_weakest 28 = .ok (.getfield 22, 3) := by decide +kernel
theorem dX8_weakest_31 : decode cX8_weakest 31 = .ok (.iload_n 2, 1) := by decide +kernel
theorem dX8_weakest_32 : decode cX8_weakest 32 = .ok (.laload, 1) := by decide +kernel
theorem dX8_weakest_33 : decode cX8_weakest 33 = .ok (.lsub, 1) := by decide +kernel
theorem dX8_weakest_34 : decode cX8_weakest 34 = .ok (.lstore_n 3, 1) := by decide +kernel
theorem dX8_weakest_35 : decode cX8_weakest 35 = .ok (.lload_n 3, 1) := by decide +kernel
theorem dX8_weakest_36 : decode cX8_weakest 36 = .ok (.lconst 0, 1) := by decide +kernel
theorem dX8_weakest_37 : decode cX8_weakest 37 = .ok (.lcmp, 1) := by decide +kernel
theorem dX8_weakest_38 : decode cX8_weakest 38 = .ok (.ifCond .gt 30, 3) := by decide +kernel
theorem dX8_weakest_41 : decode cX8_weakest 41 = .ok (.lload_n 3, 1) := by decide +kernel
theorem dX8_weakest_42 : decode cX8_weakest 42 = .ok (.lconst 0, 1) := by decide +kernel
theorem dX8_weakest_43 : decode cX8_weakest 43 = .ok (.lcmp, 1) := by decide +kernel
theorem dX8_weakest_44 : decode cX8_weakest 44 = .ok (.ifCond .ne 26, 3) := by decide +kernel
theorem dX8_weakest_47 : decode cX8_weakest 47 = .ok (.aload_n 0, 1) := by decide +kernel
theorem dX8_weakest_48 : decode cX8_weakest 48 = .ok (.getfield 12, 3) := by decide +kernel
theorem dX8_weakest_51 : decode cX8_weakest 51 = .ok (.getfield 64, 3) := by decide +kernel
theorem dX8_weakest_54 : decode cX8_weakest 54 = .ok (.iload_n 2, 1) := by decide +kernel
theorem dX8_weakest_55 : decode cX8_weakest 55 = .ok (.iaload, 1) := by decide +kernel
theorem dX8_weakest_56 : decode cX8_weakest 56 = .ok (.aload_n 0, 1) := by decide +kernel
theorem dX8_weakest_57 : decode cX8_weakest 57 = .ok (.getfield 12, 3) := by decide +kernel
theorem dX8_weakest_60 : decode cX8_weakest 60 = .ok (.getfield 64, 3) := by decide +kernel
theorem dX8_weakest_63 : decode cX8_weakest 63 = .ok (.iload_n 1, 1) := by decide +kernel
theorem dX8_weakest_64 : decode cX8_weakest 64 = .ok (.iaload, 1) := by decide +kernel
theorem dX8_weakest_65 : decode cX8_weakest 65 = .ok (.if_icmp .le 5, 3) := by decide +kernel
theorem dX8_weakest_68 : decode cX8_weakest 68 = .ok (.iload_n 2, 1) := by decide +kernel
theorem dX8_weakest_69 : decode cX8_weakest 69 = .ok (.istore_n 1, 1) := by decide +kernel
theorem dX8_weakest_70 : decode cX8_weakest 70 = .ok (.iinc 2 1, 3) := by decide +kernel
theorem dX8_weakest_73 : decode cX8_weakest 73 = .ok (.goto (-69), 3) := by decide +kernel
theorem dX8_weakest_76 : decode cX8_weakest 76 = .ok (.iload_n 1, 1) := by decide +kernel
theorem dX8_weakest_77 : decode cX8_weakest 77 = .ok (.ireturn, 1) := by decide +kernel
theorem dX10_init_0 : decode cX10_init 0 = .ok (.aload_n 0, 1) := by decide +kernel
theorem dX10_init_1 : decode cX10_init 1 = .ok (.invokespecial 3, 3) := by decide +kernel
theorem dX10_init_4 : decode cX10_init 4 = .ok (.aload_n 0, 1) := by decide +kernel
theorem dX10_init_5 : decode cX10_init 5 = .ok (.new 9, 3) := by decide +kernel
theorem dX10_init_8 : decode cX10_init 8 = .ok (.dup, 1) := by decide +kernel
theorem dX10_init_9 : decode cX10_init 9 = .ok (.aload_n 1, 1) := by decide +kernel
theorem dX10_init_10 : decode cX10_init 10 = .ok (.iconst 0, 1) := by decide +kernel
theorem dX10_init_11 : decode cX10_init 11 = .ok (.invokespecial 11, 3) := by decide +kernel
theorem dX10_init_14 : decode cX10_init 14 = .ok (.putfield 14, 3) := by decide +kernel
theorem dX10_init_17 : decode cX10_init 17 = .ok (.aload_n 0, 1) := by decide +kernel
theorem dX10_init_18 : decode cX10_init 18 = .ok (.new 9, 3) := by decide +kernel
theorem dX10_init_21 : decode cX10_init 21 = .ok (.dup, 1) := by decide +kernel
theorem dX10_init_22 : decode cX10_init 22 = .ok (.aload_n 1, 1) := by decide +kernel
theorem dX10_init_23 : decode cX10_init 23 = .ok (.iconst 1, 1) := by decide +kernel
theorem dX10_init_24 : decode cX10_init 24 = .ok (.invokespecial 11, 3) := by decide +kernel
theorem dX10_init_27 : decode cX10_init 27 = .ok (.putfield 20, 3) := by decide +kernel
theorem dX10_init_30 : decode cX10_init 30 = .ok (.aload_n 0, 1) := by decide +kernel
theorem dX10_init_31 : decode cX10_init 31 = .ok (.new 23, 3) := by decide +kernel
theorem dX10_init_34 : decode cX10_init 34 = .ok (.dup, 1) := by decide +kernel
theorem dX10_init_35 : decode cX10_init 35 = .ok (.aload_n 1, 1) := by decide +kernel
theorem dX10_init_36 : decode cX10_init 36 = .ok (.getfield 25, 3) := by decide +kernel
theorem dX10_init_39 : decode cX10_init 39 = .ok (.iload_n 2, 1) := by decide +kernel
theorem dX10_init_40 : decode cX10_init 40 = .ok (.invokespecial 31, 3) := by decide +kernel
theorem dX10_init_43 : decode cX10_init 43 = .ok (.putfield 34, 3) := by decide +kernel
theorem dX10_init_46 : decode cX10_init 46 = .ok (.aload_n 0, 1) := by decide +kernel
theorem dX10_init_47 : decode cX10_init 47 = .ok (.new 38, 3) := by decide +kernel
theorem dX10_init_50 : decode cX10_init 50 = .ok (.dup, 1) := by decide +kernel
theorem dX10_init_51 : decode cX10_init 51 = .ok (.aload_n 1, 1) := by decide +kernel
theorem dX10_init_52 : decode cX10_init 52 = .ok (.getfield 25, 3) := by decide +kernel
theorem dX10_init_55 : decode cX10_init 55 = .ok (.iload_n 2, 1) := by decide +kernel
theorem dX10_init_56 : decode cX10_init 56 = .ok (.invokespecial 40, 3) := by decide +kernel
theorem dX10_init_59 : decode cX10_init 59 = .ok (.putfield 41, 3) := by decide +kernel
theorem dX10_init_62 : decode cX10_init 62 = .ok (.aload_n 0, 1) := by decide +kernel
theorem dX10_init_63 : decode cX10_init 63 = .ok (.new 45, 3) := by decide +kernel
theorem dX10_init_66 : decode cX10_init 66 = .ok (.dup, 1) := by decide +kernel
theorem dX10_init_67 : decode cX10_init 67 = .ok (.aload_n 1, 1) := by decide +kernel
theorem dX10_init_68 : decode cX10_init 68 = .ok (.getfield 25, 3) := by decide +kernel
theorem dX10_init_71 : decode cX10_init 71 = .ok (.invokespecial 47, 3) := by decide +kernel
theorem dX10_init_74 : decode cX10_init 74 = .ok (.putfield 50, 3) := by decide +kernel
theorem dX10_init_77 : decode cX10_init 77 = .ok (.aload_n 0, 1) := by decide +kernel
theorem dX10_init_78 : decode cX10_init 78 = .ok (.iconst 5, 1) := by decide +kernel
theorem dX10_init_79 : decode cX10_init 79 = .ok (.anewarray 54, 3) := by decide +kernel
theorem dX10_init_82 : decode cX10_init 82 = .ok (.putfield 56, 3) := by decide +kernel
theorem dX10_init_85 : decode cX10_init 85 = .ok (.aload_n 0, 1) := by decide +kernel
theorem dX10_init_86 : decode cX10_init 86 = .ok (.getfield 56, 3) := by decide +kernel
theorem dX10_init_89 : decode cX10_init 89 = .ok (.iconst 0, 1) := by decide +kernel
theorem dX10_init_90 : decode cX10_init 90 = .ok (.aload_n 0, 1) := by decide +kernel
theorem dX10_init_91 : decode cX10_init 91 = .ok (.getfield 14, 3) := by decide +kernel
theorem dX10_init_94 : decode cX10_init 94 = .ok (.aastore, 1) := by decide +kernel
theorem dX10_init_95 : decode cX10_init 95 = .ok (.aload_n 0, 1) := by decide +kernel
theorem dX10_init_96 : decode cX10_init 96 = .ok (.getfield 56, 3) := by decide +kernel
theorem dX10_init_99 : decode cX10_init 99 = .ok (.iconst 1, 1) := by decide +kernel
theorem dX10_init_100 : decode cX10_init 100 = .ok (.aload_n 0, 1) := by decide +kernel
theorem dX10_init_101 : decode cX10_init 101 = .ok (.getfield 20, 3) := by decide +kernel
theorem dX10_init_104 : decode cX10_init 104 = .ok (.aastore, 1) := by decide +kernel
theorem dX10_init_105 : decode cX10_init 105 = .ok (.aload_n 0, 1) := by decide +kernel
theorem dX10_init_106 : decode cX10_init 106 = .ok (.getfield 56, 3) := by decide +kernel
theorem dX10_init_109 : decode cX10_init 109 = .ok (.iconst 2, 1) := by decide +kernel
theorem dX10_init_110 : decode cX10_init 110 = .ok (.aload_n 0, 1) := by decide +kernel
theorem dX10_init_111 : decode cX10_init 111 = .ok (.getfield 34, 3) := by decide +kernel
theorem dX10_init_114 : decode cX10_init 114 = .ok (.aastore, 1) := by decide +kernel
theorem dX10_init_115 : decode cX10_init 115 = .ok (.aload_n 0, 1) := by decide +kernel
theorem dX10_init_116 : decode cX10_init 116 = .ok (.getfield 56, 3) := by decide +kernel
theorem dX10_init_119 : decode cX10_init 119 = .ok (.iconst 3, 1) := by decide +kernel
theorem dX10_init_120 : decode cX10_init 120 = .ok (.aload_n 0, 1) := by decide +kernel
theorem dX10_init_121 : decode cX10_init 121 = .ok (.getfield 41, 3) := by decide +kernel
theorem dX10_init_124 : decode cX10_init 124 = .ok (.aastore, 1) := by decide +kernel
theorem dX10_init_125 : decode cX10_init 125 = .ok (.aload_n 0, 1) := by decide +kernel
theorem dX10_init_126 : decode cX10_init 126 = .ok (.getfield 56, 3) := by decide +kernel
theorem dX10_init_129 : decode cX10_init 129 = .ok (.iconst 4, 1) := by decide +kernel
theorem dX10_init_130 : decode cX10_init 130 = .ok (.new 60, 3) := by decide +kernel
theorem dX10_init_133 : decode cX10_init 133 = .ok (.dup, 1) := by decide +kernel
theorem dX10_init_134 : decode cX10_init 134 = .ok (.aload_n 0, 1) := by decide +kernel
theorem dX10_init_135 : decode cX10_init 135 = .ok (.getfield 14, 3) := by decide +kernel
theorem dX10_init_138 : decode cX10_init 138 = .ok (.aload_n 0, 1) := by decide +kernel
theorem dX10_init_139 : decode cX10_init 139 = .ok (.getfield 20, 3) := by decide +kernel
theorem dX10_init_142 : decode cX10_init 142 = .ok (.aload_n 0, 1) := by decide +kernel
theorem dX10_init_143 : decode cX10_init 143 = .ok (.getfield 34, 3) := by decide +kernel
theorem dX10_init_146 : decode cX10_init 146 = .ok (.aload_n 0, 1) := by decide +kernel
theorem dX10_init_147 : decode cX10_init 147 = .ok (.getfield 41, 3) := by decide +kernel
theorem dX10_init_150 : decode cX10_init 150 = .ok (.invokespecial 62, 3) := by decide +kernel
theorem dX10_init_153 : decode cX10_init 153 = .ok (.aastore, 1) := by decide +kernel
theorem dX10_init_154 : decode cX10_init 154 = .ok (.return_, 1) := by decide +kernel
theorem dX10_take_0 : decode cX10_take 0 = .ok (.aload_n 0, 1) := by decide +kernel
theorem dX10_take_1 : decode cX10_take 1 = .ok (.dup, 1) := by decide +kernel
theorem dX10_take_2 : decode cX10_take 2 = .ok (.getfield 65, 3) := by decide +kernel
theorem dX10_take_5 : decode cX10_take 5 = .ok (.iload_n 2, 1) := by decide +kernel
theorem dX10_take_6 : decode cX10_take 6 = .ok (.i2l, 1) := by decide +kernel
theorem dX10_take_7 : decode cX10_take 7 = .ok (.ladd, 1) := by decide +kernel
theorem dX10_take_8 : decode cX10_take 8 = .ok (.putfield 65, 3) := by decide +kernel
theorem dX10_take_11 : decode cX10_take 11 = .ok (.aload_n 0, 1) := by decide +kernel
theorem dX10_take_12 : decode cX10_take 12 = .ok (.getfield 14, 3) := by decide +kernel
theorem dX10_take_15 : decode cX10_take 15 = .ok (.iload_n 1, 1) := by decide +kernel
theorem dX10_take_16 : decode cX10_take 16 = .ok (.iload_n 2, 1) := by decide +kernel
theorem dX10_take_17 : decode cX10_take 17 = .ok (.invokevirtual 69, 3) := by decide +kernel
theorem dX10_take_20 : decode cX10_take 20 = .ok (.aload_n 0, 1) := by decide +kernel
theorem dX10_take_21 : decode cX10_take 21 = .ok (.getfield 20, 3) := by decide +kernel
theorem dX10_take_24 : decode cX10_take 24 = .ok (.iload_n 1, 1) := by decide +kernel
theorem dX10_take_25 : decode cX10_take 25 = .ok (.iload_n 2, 1) := by decide +kernel
theorem dX10_take_26 : decode cX10_take 26 = .ok (.invokevirtual 69, 3) := by decide +kernel
theorem dX10_take_29 : decode cX10_take 29 = .ok (.aload_n 0, 1) := by decide +kernel
theorem dX10_take_30 : decode cX10_take 30 = .ok (.getfield 34, 3) := by decide +kernel
theorem dX10_take_33 : decode cX10_take 33 = .ok (.iload_n 1, 1) := by decide +kernel
theorem dX10_take_34 : decode cX10_take 34 = .ok (.iload_n 2, 1) := by decide +kernel
theorem dX10_take_35 : decode cX10_take 35 = .ok (.invokevirtual 72, 3) := by decide +kernel
theorem dX10_take_38 : decode cX10_take 38 = .ok (.aload_n 0, 1) := by decide +kernel
theorem dX10_take_39 : decode cX10_take 39 = .ok (.getfield 41, 3) := by decide +kernel
theorem dX10_take_42 : decode cX10_take 42 = .ok (.iload_n 1, 1) := by decide +kernel
theorem dX10_take_43 : decode cX10_take 43 = .ok (.iload_n 2, 1) := by decide +kernel
theorem dX10_take_44 : decode cX10_take 44 = .ok (.invokevirtual 73, 3) := by decide +kernel
theorem dX10_take_47 : decode cX10_take 47 = .ok (.aload_n 0, 1) := by decide +kernel
theorem dX10_take_48 : decode cX10_take 48 = .ok (.getfield 50, 3) := by decide +kernel
theorem dX10_take_51 : decode cX10_take 51 = .ok (.iload_n 1, 1) := by decide +kernel
theorem dX10_take_52 : decode cX10_take 52 = .ok (.iload_n 2, 1) := by decide +kernel
theorem dX10_take_53 : decode cX10_take 53 = .ok (.i2l, 1) := by decide +kernel
theorem dX10_take_54 : decode cX10_take 54 = .ok (.invokevirtual 74, 3) := by decide +kernel
theorem dX10_take_57 : decode cX10_take 57 = .ok (.return_, 1) := by decide +kernel
theorem dX10_makeEmpty_0 : decode cX10_makeEmpty 0 = .ok (.aload_n 0, 1) := by decide +kernel
theorem dX10_makeEmpty_1 : decode cX10_makeEmpty 1 = .ok (.lconst 0, 1) := by decide +kernel
theorem dX10_makeEmpty_2 : decode cX10_makeEmpty 2 = .ok (.putfield 65, 3) := by decide +kernel
theorem dX10_makeEmpty_5 : decode cX10_makeEmpty 5 = .ok (.aload_n 0, 1) := by decide +kernel
theorem dX10_makeEmpty_6 : decode cX10_makeEmpty 6 = .ok (.getfield 14, 3) := by decide +kernel
theorem dX10_makeEmpty_9 : decode cX10_makeEmpty 9 = .ok (.invokevirtual 77, 3) := by decide +kernel
theorem dX10_makeEmpty_12 : decode cX10_makeEmpty 12 = .ok (.aload_n 0, 1) := by decide +kernel
theorem dX10_makeEmpty_13 : decode cX10_makeEmpty 13 = .ok (.getfield 20, 3) := by decide +kernel
theorem dX10_makeEmpty_16 : decode cX10_makeEmpty 16 = .ok (.invokevirtual 77, 3) := by decide +kernel
theorem dX10_makeEmpty_19 : decode cX10_makeEmpty 19 = .ok (.aload_n 0, 1) := by decide +kernel
theorem dX10_makeEmpty_20 : decode cX10_makeEmpty 20 = .ok (.getfield 34, 3) := by decide +kernel
theorem dX10_makeEmpty_23 : decode cX10_makeEmpty 23 = .ok (.invokevirtual 80, 3) := by decide +kernel
theorem dX10_makeEmpty_26 : decode cX10_makeEmpty 26 = .ok (.aload_n 0, 1) := by decide +kernel
theorem dX10_makeEmpty_27 : decode cX10_makeEmpty 27 = .ok (.getfield 41, 3) := by decide +kernel
theorem dX10_makeEmpty_30 : decode cX10_makeEmpty 30 = .ok (.invokevirtual 81, 3) := by decide +kernel
theorem dX10_makeEmpty_33 : decode cX10_makeEmpty 33 = .ok (.aload_n 0, 1) := by decide +kernel
theorem dX10_makeEmpty_34 : decode cX10_makeEmpty 34 = .ok (.getfield 50, 3) := by decide +kernel
theorem dX10_makeEmpty_37 : decode cX10_makeEmpty 37 = .ok (.invokevirtual 82, 3) := by decide +kernel
theorem dX10_makeEmpty_40 : decode cX10_makeEmpty 40 = .ok (.return_, 1) := by decide +kernel
theorem dX10_become_0 : decode cX10_become 0 = .ok (.aload_n 0, 1) := by decide +kernel
theorem dX10_become_1 : decode cX10_become 1 = .ok (.aload_n 1, 1) := by decide +kernel
theorem dX10_become_2 : decode cX10_become 2 = .ok (.getfield 65, 3) := by decide +kernel
theorem dX10_become_5 : decode cX10_become 5 = .ok (.putfield 65, 3) := by decide +kernel
theorem dX10_become_8 : decode cX10_become 8 = .ok (.aload_n 0, 1) := by decide +kernel
theorem dX10_become_9 : decode cX10_become 9 = .ok (.getfield 14, 3) := by decide +kernel
theorem dX10_become_12 : decode cX10_become 12 = .ok (.aload_n 1, 1) := by decide +kernel
theorem dX10_become_13 : decode cX10_become 13 = .ok (.getfield 14, 3) := by decide +kernel
theorem dX10_become_16 : decode cX10_become 16 = .ok (.invokevirtual 83, 3) := by decide +kernel
theorem dX10_become_19 : decode cX10_become 19 = .ok (.aload_n 0, 1) := by decide +kernel
theorem dX10_become_20 : decode cX10_become 20 = .ok (.getfield 20, 3) := by decide +kernel
theorem dX10_become_23 : decode cX10_become 23 = .ok (.aload_n 1, 1) := by decide +kernel
theorem dX10_become_24 : decode cX10_become 24 = .ok (.getfield 20, 3) := by decide +kernel
theorem dX10_become_27 : decode cX10_become 27 = .ok (.invokevirtual 83, 3) := by decide +kernel
theorem dX10_become_30 : decode cX10_become 30 = .ok (.aload_n 0, 1) := by decide +kernel
theorem dX10_become_31 : decode cX10_become 31 = .ok (.getfield 34, 3) := by decide +kernel
theorem dX10_become_34 : decode cX10_become 34 = .ok (.aload_n 1, 1) := by decide +kernel
theorem dX10_become_35 : decode cX10_become 35 = .ok (.getfield 34, 3) := by decide +kernel
theorem dX10_become_38 : decode cX10_become 38 = .ok (.invokevirtual 87, 3) := by decide +kernel
theorem dX10_become_41 : decode cX10_become 41 = .ok (.aload_n 0, 1) := by decide +kernel
theorem dX10_become_42 : decode cX10_become 42 = .ok (.getfield 41, 3) := by decide +kernel
theorem dX10_become_45 : decode cX10_become 45 = .ok (.aload_n 1, 1) := by decide +kernel
theorem dX10_become_46 : decode cX10_become 46 = .ok (.getfield 41, 3) := by decide +kernel
theorem dX10_become_49 : decode cX10_become 49 = .ok (.invokevirtual 90, 3) := by decide +kernel
theorem dX10_become_52 : decode cX10_become 52 = .ok (.aload_n 0, 1) := by decide +kernel
theorem dX10_become_53 : decode cX10_become 53 = .ok (.getfield 50, 3) := by decide +kernel
theorem dX10_become_56 : decode cX10_become 56 = .ok (.aload_n 1, 1) := by decide +kernel
theorem dX10_become_57 : decode cX10_become 57 = .ok (.getfield 50, 3) := by decide +kernel
theorem dX10_become_60 : decode cX10_become 60 = .ok (.invokevirtual 93, 3) := by decide +kernel
theorem dX10_become_63 : decode cX10_become 63 = .ok (.return_, 1) := by decide +kernel
theorem dX10_putTogether_0 : decode cX10_putTogether 0 = .ok (.aload_n 0, 1) := by decide +kernel
theorem dX10_putTogether_1 : decode cX10_putTogether 1 = .ok (.dup, 1) := by decide +kernel
theorem dX10_putTogether_2 : decode cX10_putTogether 2 = .ok (.getfield 65, 3) := by decide +kernel
theorem dX10_putTogether_5 : decode cX10_putTogether 5 = .ok (.aload_n 1, 1) := by decide +kernel
theorem dX10_putTogether_6 : decode cX10_putTogether 6 = .ok (.getfield 65, 3) := by decide +kernel
theorem dX10_putTogether_9 : decode cX10_putTogether 9 = .ok (.ladd, 1) := by decide +kernel
theorem dX10_putTogether_10 : decode cX10_putTogether 10 = .ok (.putfield 65, 3) := by decide +kernel
theorem dX10_putTogether_13 : decode cX10_putTogether 13 = .ok (.aload_n 0, 1) := by decide +kernel
theorem dX10_putTogether_14 : decode cX10_putTogether 14 = .ok (.getfield 14, 3) := by decide +kernel
theorem dX10_putTogether_17 : decode cX10_putTogether 17 = .ok (.aload_n 1, 1) := by decide +kernel
theorem dX10_putTogether_18 : decode cX10_putTogether 18 = .ok (.getfield 14, 3) := by decide +kernel
theorem dX10_putTogether_21 : decode cX10_putTogether 21 = .ok (.invokevirtual 96, 3) := by decide +kernel
theorem dX10_putTogether_24 : decode cX10_putTogether 24 = .ok (.aload_n 0, 1) := by decide +kernel
theorem dX10_putTogether_25 : decode cX10_putTogether 25 = .ok (.getfield 20, 3) := by decide +kernel
theorem dX10_putTogether_28 : decode cX10_putTogether 28 = .ok (.aload_n 1, 1) := by decide +kernel
theorem dX10_putTogether_29 : decode cX10_putTogether 29 = .ok (.getfield 20, 3) := by decide +kernel
theorem dX10_putTogether_32 : decode cX10_putTogether 32 = .ok (.invokevirtual 96, 3) := by decide +kernel
theorem dX10_putTogether_35 : decode cX10_putTogether 35 = .ok (.aload_n 0, 1) := by decide +kernel
theorem dX10_putTogether_36 : decode cX10_putTogether 36 = .ok (.getfield 34, 3) := by decide +kernel
theorem dX10_putTogether_39 : decode cX10_putTogether 39 = .ok (.aload_n 1, 1) := by decide +kernel
theorem dX10_putTogether_40 : decode cX10_putTogether 40 = .ok (.getfield 34, 3) := by decide +kernel
theorem dX10_putTogether_43 : decode cX10_putTogether 43 = .ok (.invokevirtual 99, 3) := by decide +kernel
theorem dX10_putTogether_46 : decode cX10_putTogether 46 = .ok (.aload_n 0, 1) := by decide +kernel
theorem dX10_putTogether_47 : decode cX10_putTogether 47 = .ok (.getfield 41, 3) := by decide +kernel
theorem dX10_putTogether_50 : decode cX10_putTogether 50 = .ok (.aload_n 1, 1) := by decide +kernel
theorem dX10_putTogether_51 : decode cX10_putTogether 51 = .ok (.getfield 41, 3) := by decide +kernel
theorem dX10_putTogether_54 : decode cX10_putTogether 54 = .ok (.invokevirtual 101, 3) := by decide +kernel
theorem dX10_putTogether_57 : decode cX10_putTogether 57 = .ok (.aload_n 0, 1) := by decide +kernel
theorem dX10_putTogether_58 : decode cX10_putTogether 58 = .ok (.getfield 50, 3) := by decide +kernel
theorem dX10_putTogether_61 : decode cX10_putTogether 61 = .ok (.aload_n 1, 1) := by decide +kernel
theorem dX10_putTogether_62 : decode cX10_putTogether 62 = .ok (.getfield 50, 3) := by decide +kernel
theorem dX10_putTogether_65 : decode cX10_putTogether 65 = .ok (.invokevirtual 103, 3) := by decide +kernel
theorem dX10_putTogether_68 : decode cX10_putTogether 68 = .ok (.return_, 1) := by decide +kernel
theorem dX10_firstBroken_0 : decode cX10_firstBroken 0 = .ok (.iconst 0, 1) := by decide +kernel
theorem dX10_firstBroken_1 : decode cX10_firstBroken 1 = .ok (.istore_n 1, 1) := by decide +kernel
theorem dX10_firstBroken_2 : decode cX10_firstBroken 2 = .ok (.iload_n 1, 1) := by decide +kernel
theorem dX10_firstBroken_3 : decode cX10_firstBroken 3 = .ok (.iconst 3, 1) := by decide +kernel
theorem dX10_firstBroken_4 : decode cX10_firstBroken 4 = .ok (.if_icmp .gt 26, 3) := by decide +kernel
theorem dX10_firstBroken_7 : decode cX10_firstBroken 7 = .ok (.aload_n 0, 1) := by decide +kernel
theorem dX10_firstBroken_8 : decode cX10_firstBroken 8 = .ok (.aload_n 0, 1) := by decide +kernel
theorem dX10_firstBroken_9 : decode cX10_firstBroken 9 = .ok (.getfield 56, 3) := by decide +kernel
theorem dX10_firstBroken_12 : decode cX10_firstBroken 12 = .ok (.iload_n 1, 1) := by decide +kernel
theorem dX10_firstBroken_13 : decode cX10_firstBroken 13 = .ok (.aaload, 1) := by decide +kernel
theorem dX10_firstBroken_14 : decode cX10_firstBroken 14 = .ok (.invokevirtual 105, 3) := by decide +kernel
theorem dX10_firstBroken_17 : decode cX10_firstBroken 17 = .ok (.ifCond .ne 7, 3) := by decide +kernel
theorem dX10_firstBroken_20 : decode cX10_firstBroken 20 = .ok (.iload_n 1, 1) := by decide +kernel
theorem dX10_firstBroken_21 : decode cX10_firstBroken 21 = .ok (.iconst 1, 1) := by decide +kernel
theorem dX10_firstBroken_22 : decode cX10_firstBroken 22 = .ok (.iadd, 1) := by decide +kernel
theorem dX10_firstBroken_23 : decode cX10_firstBroken 23 = .ok (.ireturn, 1) := by decide +kernel
theorem dX10_firstBroken_24 : decode cX10_firstBroken 24 = .ok (.iinc 1 1, 3) := by decide +kernel
theorem dX10_firstBroken_27 : decode cX10_firstBroken 27 = .ok (.goto (-25), 3) := by decide +kernel
theorem dX10_firstBroken_30 : decode cX10_firstBroken 30 = .ok (.aload_n 0, 1) := by decide +kernel
theorem dX10_firstBroken_31 : decode cX10_firstBroken 31 = .ok (.invokevirtual 109, 3) := by decide +kernel
theorem dX10_firstBroken_34 : decode cX10_firstBroken 34 = .ok (.ifCond .ne 5, 3) := by decide +kernel
theorem dX10_firstBroken_37 : decode cX10_firstBroken 37 = .ok (.iconst 5, 1) := by decide +kernel
theorem dX10_firstBroken_38 : decode cX10_firstBroken 38 = .ok (.ireturn, 1) := by decide +kernel
theorem dX10_firstBroken_39 : decode cX10_firstBroken 39 = .ok (.aload_n 0, 1) := by decide +kernel
theorem dX10_firstBroken_40 : decode cX10_firstBroken 40 = .ok (.getfield 34, 3) := by decide +kernel
theorem dX10_firstBroken_43 : decode cX10_firstBroken 43 = .ok (.getfield 113, 3) := by decide +kernel
theorem dX10_firstBroken_46 : decode cX10_firstBroken 46 = .ok (.getfield 117, 3) := by decide +kernel
theorem dX10_firstBroken_49 : decode cX10_firstBroken 49 = .ok (.iconst 1, 1) := by decide +kernel
theorem dX10_firstBroken_50 : decode cX10_firstBroken 50 = .ok (.iadd, 1) := by decide +kernel
theorem dX10_firstBroken_51 : decode cX10_firstBroken 51 = .ok (.i2l, 1) := by decide +kernel
theorem dX10_firstBroken_52 : decode cX10_firstBroken 52 = .ok (.aload_n 0, 1) := by decide +kernel
theorem dX10_firstBroken_53 : decode cX10_firstBroken 53 = .ok (.getfield 34, 3) := by decide +kernel
theorem dX10_firstBroken_56 : decode cX10_firstBroken 56 = .ok (.getfield 122, 3) := by decide +kernel
theorem dX10_firstBroken_59 : decode cX10_firstBroken 59 = .ok (.lmul, 1) := by decide +kernel
theorem dX10_firstBroken_60 : decode cX10_firstBroken 60 = .ok (.aload_n 0, 1) := by decide +kernel
theorem dX10_firstBroken_61 : decode cX10_firstBroken 61 = .ok (.getfield 65, 3) := by decide +kernel
theorem dX10_firstBroken_64 : decode cX10_firstBroken 64 = .ok (.lcmp, 1) := by decide +kernel
theorem dX10_firstBroken_65 : decode cX10_firstBroken 65 = .ok (.ifCond .le 6, 3) := by decide +kernel
theorem dX10_firstBroken_68 : decode cX10_firstBroken 68 = .ok (.bipush 6, 2) := by decide +kernel
theorem dX10_firstBroken_70 : decode cX10_firstBroken 70 = .ok (.ireturn, 1) := by decide +kernel
theorem dX10_firstBroken_71 : decode cX10_firstBroken 71 = .ok (.aload_n 0, 1) := by decide +kernel
theorem dX10_firstBroken_72 : decode cX10_firstBroken 72 = .ok (.getfield 50, 3) := by decide +kernel
theorem dX10_firstBroken_75 : decode cX10_firstBroken 75 = .ok (.invokevirtual 125, 3) := by decide +kernel
theorem dX10_firstBroken_78 : decode cX10_firstBroken 78 = .ok (.aload_n 0, 1) := by decide +kernel
theorem dX10_firstBroken_79 : decode cX10_firstBroken 79 = .ok (.getfield 65, 3) := by decide +kernel
theorem dX10_firstBroken_82 : decode cX10_firstBroken 82 = .ok (.lcmp, 1) := by decide +kernel
theorem dX10_firstBroken_83 : decode cX10_firstBroken 83 = .ok (.ifCond .ne 7, 3) := by decide +kernel
theorem dX10_firstBroken_86 : decode cX10_firstBroken 86 = .ok (.iconst 0, 1) := by decide +kernel
theorem dX10_firstBroken_87 : decode cX10_firstBroken 87 = .ok (.goto 5, 3) := by decide +kernel
theorem dX10_firstBroken_90 : decode cX10_firstBroken 90 = .ok (.bipush 7, 2) := by decide +kernel
theorem dX10_firstBroken_92 : decode cX10_firstBroken 92 = .ok (.ireturn, 1) := by decide +kernel
theorem dX10_holdsCounts_0 : decode cX10_holdsCounts 0 = .ok (.iconst 0, 1) := by decide +kernel
theorem dX10_holdsCounts_1 : decode cX10_holdsCounts 1 = .ok (.istore_n 2, 1) := by decide +kernel
theorem dX10_holdsCounts_2 : decode cX10_holdsCounts 2 = .ok (.iload_n 2, 1) := by decide +kernel
theorem dX10_holdsCounts_3 : decode cX10_holdsCounts 3 = .ok (.aload_n 0, 1) := by decide +kernel
theorem dX10_holdsCounts_4 : decode cX10_holdsCounts 4 = .ok (.getfield 50, 3) := by decide +kernel
theorem dX10_holdsCounts_7 : decode cX10_holdsCounts 7 = .ok (.getfield 129, 3) := by decide +kernel
theorem dX10_holdsCounts_10 : decode cX10_holdsCounts 10 = .ok (.if_icmp .ge 58, 3) := by decide +kernel
theorem dX10_holdsCounts_13 : decode cX10_holdsCounts 13 = .ok (.aload_n 0, 1) := by decide +kernel
theorem dX10_holdsCounts_14 : decode cX10_holdsCounts 14 = .ok (.getfield 50, 3) := by decide +kernel
theorem dX10_holdsCounts_17 : decode cX10_holdsCounts 17 = .ok (.getfield 132, 3) := by decide +kernel
theorem dX10_holdsCounts_20 : decode cX10_holdsCounts 20 = .ok (.iload_n 2, 1) := by decide +kernel
theorem dX10_holdsCounts_21 : decode cX10_holdsCounts 21 = .ok (.iaload, 1) := by decide +kernel
theorem dX10_holdsCounts_22 : decode cX10_holdsCounts 22 = .ok (.istore_n 3, 1) := by decide +kernel
theorem dX10_holdsCounts_23 : decode cX10_holdsCounts 23 = .ok (.aload_n 0, 1) := by decide +kernel
theorem dX10_holdsCounts_24 : decode cX10_holdsCounts 24 = .ok (.getfield 50, 3) := by decide +kernel
theorem dX10_holdsCounts_27 : decode cX10_holdsCounts 27 = .ok (.getfield 136, 3) := by decide +kernel
theorem dX10_holdsCounts_30 : decode cX10_holdsCounts 30 = .ok (.iload_n 2, 1) := by decide +kernel
theorem dX10_holdsCounts_31 : decode cX10_holdsCounts 31 = .ok (.laload, 1) := by decide +kernel
theorem dX10_holdsCounts_32 : decode cX10_holdsCounts 32 = .ok (.lstore 4, 2) := by decide +kernel
theorem dX10_holdsCounts_34 : decode cX10_holdsCounts 34 = .ok (.aload_n 1, 1) := by decide +kernel
theorem dX10_holdsCounts_35 : decode cX10_holdsCounts 35 = .ok (.iload_n 3, 1) := by decide +kernel
theorem dX10_holdsCounts_36 : decode cX10_holdsCounts 36 = .ok (.invokeinterface 140 2, 5) := by decide +kernel
theorem dX10_holdsCounts_41 : decode cX10_holdsCounts 41 = .ok (.lload 4, 2) := by decide +kernel
theorem dX10_holdsCounts_43 : decode cX10_holdsCounts 43 = .ok (.lcmp, 1) := by decide +kernel
theorem dX10_holdsCounts_44 : decode cX10_holdsCounts 44 = .ok (.ifCond .gt 16, 3) := by decide +kernel
theorem dX10_holdsCounts_47 : decode cX10_holdsCounts 47 = .ok (.aload_n 1, 1) := by decide +kernel
theorem dX10_holdsCounts_48 : decode cX10_holdsCounts 48 = .ok (.iload_n 3, 1) := by decide +kernel
theorem dX10_holdsCounts_49 : decode cX10_holdsCounts 49 = .ok (.invokeinterface 144 2, 5) := by decide +kernel
theorem dX10_holdsCounts_54 : decode cX10_holdsCounts 54 = .ok (.lload 4, 2) := by decide +kernel
theorem dX10_holdsCounts_56 : decode cX10_holdsCounts 56 = .ok (.lcmp, 1) := by decide +kernel
theorem dX10_holdsCounts_57 : decode cX10_holdsCounts 57 = .ok (.ifCond .ge 5, 3) := by decide +kernel
theorem dX10_holdsCounts_60 : decode cX10_holdsCounts 60 = .ok (.iconst 0, 1) := by decide +kernel
theorem dX10_holdsCounts_61 : decode cX10_holdsCounts 61 = .ok (.ireturn, 1) := by decide +kernel
theorem dX10_holdsCounts_62 : decode cX10_holdsCounts 62 = .ok (.iinc 2 1, 3) := by decide +kernel
theorem dX10_holdsCounts_65 : decode cX10_holdsCounts 65 = .ok (.goto (-63), 3) := by decide +kernel
theorem dX10_holdsCounts_68 : decode cX10_holdsCounts 68 = .ok (.iconst 1, 1) := by decide +kernel
theorem dX10_holdsCounts_69 : decode cX10_holdsCounts 69 = .ok (.ireturn, 1) := by decide +kernel
theorem dX10_carefulIsNotAbovePlain_0 : decode cX10_carefulIsNotAbovePlain 0 = .ok (.iconst 0, 1) := by decide +kernel
theorem dX10_carefulIsNotAbovePlain_1 : decode cX10_carefulIsNotAbovePlain 1 = .ok (.istore_n 1, 1) := by decide +kernel
theorem dX10_carefulIsNotAbovePlain_2 : decode cX10_carefulIsNotAbovePlain 2 = .ok (.iload_n 1, 1) := by decide +kernel
theorem dX10_carefulIsNotAbovePlain_3 : decode cX10_carefulIsNotAbovePlain 3 = .ok (.aload_n 0, 1) := by decide +kernel
theorem dX10_carefulIsNotAbovePlain_4 : decode cX10_carefulIsNotAbovePlain 4 = .ok (.getfield 50, 3) := by decide +kernel
theorem dX10_carefulIsNotAbovePlain_7 : decode cX10_carefulIsNotAbovePlain 7 = .ok (.getfield 129, 3) := by decide +kernel
theorem dX10_carefulIsNotAbovePlain_10 : decode cX10_carefulIsNotAbovePlain 10 = .ok (.if_icmp .ge 41, 3) := by decide +kernel
theorem dX10_carefulIsNotAbovePlain_13 : decode cX10_carefulIsNotAbovePlain 13 = .ok (.aload_n 0, 1) := by decide +kernel
theorem dX10_carefulIsNotAbovePlain_14 : decode cX10_carefulIsNotAbovePlain 14 = .ok (.getfield 50, 3) := by decide +kernel
theorem dX10_carefulIsNotAbovePlain_17 : decode cX10_carefulIsNotAbovePlain 17 = .ok (.getfield 132, 3) := by decide +kernel
theorem dX10_carefulIsNotAbovePlain_20 : decode cX10_carefulIsNotAbovePlain 20 = .ok (.iload_n 1, 1) := by decide +kernel
theorem dX10_carefulIsNotAbovePlain_21 : decode cX10_carefulIsNotAbovePlain 21 = .ok (.iaload, 1) := by decide +kernel
theorem dX10_carefulIsNotAbovePlain_22 : decode cX10_carefulIsNotAbovePlain 22 = .ok (.istore_n 2, 1) := by decide +kernel
theorem dX10_carefulIsNotAbovePlain_23 : decode cX10_carefulIsNotAbovePlain 23 = .ok (.aload_n 0, 1) := by decide +kernel
theorem dX10_carefulIsNotAbovePlain_24 : decode cX10_carefulIsNotAbovePlain 24 = .ok (.getfield 20, 3) := by decide +kernel
theorem dX10_carefulIsNotAbovePlain_27 : decode cX10_carefulIsNotAbovePlain 27 = .ok (.iload_n 2, 1) := by decide +kernel
theorem dX10_carefulIsNotAbovePlain_28 : decode cX10_carefulIsNotAbovePlain 28 = .ok (.invokevirtual 147, 3) := by decide +kernel
theorem dX10_carefulIsNotAbovePlain_31 : decode cX10_carefulIsNotAbovePlain 31 = .ok (.aload_n 0, 1) := by decide +kernel
theorem dX10_carefulIsNotAbovePlain_32 : decode cX10_carefulIsNotAbovePlain 32 = .ok (.getfield 14, 3) := by decide +kernel
theorem dX10_carefulIsNotAbovePlain_35 : decode cX10_carefulIsNotAbovePlain 35 = .ok (.iload_n 2, 1) := by decide +kernel
theorem dX10_carefulIsNotAbovePlain_36 : decode cX10_carefulIsNotAbovePlain 36 = .ok (.invokevirtual 147, 3) := by decide +kernel
theorem dX10_carefulIsNotAbovePlain_39 : decode cX10_carefulIsNotAbovePlain 39 = .ok (.lcmp, 1) := by decide +kernel
theorem dX10_carefulIsNotAbovePlain_40 : decode cX10_carefulIsNotAbovePlain 40 = .ok (.ifCond .le 5, 3) := by decide +kernel
theorem dX10_carefulIsNotAbovePlain_43 : decode cX10_carefulIsNotAbovePlain 43 = .ok (.iconst 0, 1) := by decide +kernel
theorem dX10_carefulIsNotAbovePlain_44 : decode cX10_carefulIsNotAbovePlain 44 = .ok (.ireturn, 1) := by decide +kernel
theorem dX10_carefulIsNotAbovePlain_45 : decode cX10_carefulIsNotAbovePlain 45 = .ok (.iinc 1 1, 3) := by decide +kernel
theorem dX10_carefulIsNotAbovePlain_48 : decode cX10_carefulIsNotAbovePlain 48 = .ok (.goto (-46), 3) := by decide +kernel
theorem dX10_carefulIsNotAbovePlain_51 : decode cX10_carefulIsNotAbovePlain 51 = .ok (.iconst 1, 1) := by decide +kernel
theorem dX10_carefulIsNotAbovePlain_52 : decode cX10_carefulIsNotAbovePlain 52 = .ok (.ireturn, 1) := by decide +kernel
theorem dX11_init_0 : decode cX11_init 0 = .ok (.aload_n 0, 1) := by decide +kernel
theorem dX11_init_1 : decode cX11_init 1 = .ok (.invokespecial 1, 3) := by decide +kernel
theorem dX11_init_4 : decode cX11_init 4 = .ok (.aload_n 0, 1) := by decide +kernel
theorem dX11_init_5 : decode cX11_init 5 = .ok (.new 7, 3) := by decide +kernel
theorem dX11_init_8 : decode cX11_init 8 = .ok (.dup, 1) := by decide +kernel
theorem dX11_init_9 : decode cX11_init 9 = .ok (.iload_n 1, 1) := by decide +kernel
theorem dX11_init_10 : decode cX11_init 10 = .ok (.iconst 2, 1) := by decide +kernel
theorem dX11_init_11 : decode cX11_init 11 = .ok (.ldc 11, 2) := by decide +kernel
theorem dX11_init_13 : decode cX11_init 13 = .ok (.invokestatic 12, 3) := by decide +kernel
theorem dX11_init_16 : decode cX11_init 16 = .ok (.invokestatic 16, 3) := by decide +kernel
theorem dX11_init_19 : decode cX11_init 19 = .ok (.iload_n 2, 1) := by decide +kernel
theorem dX11_init_20 : decode cX11_init 20 = .ok (.iconst 1, 1) := by decide +kernel
theorem dX11_init_21 : decode cX11_init 21 = .ok (.sipush 256, 3) := by decide +kernel
theorem dX11_init_24 : decode cX11_init 24 = .ok (.invokestatic 12, 3) := by decide +kernel
theorem dX11_init_27 : decode cX11_init 27 = .ok (.iload_n 3, 1) := by decide +kernel
theorem dX11_init_28 : decode cX11_init 28 = .ok (.iconst 1, 1) := by decide +kernel
theorem dX11_init_29 : decode cX11_init 29 = .ok (.bipush 8, 2) := by decide +kernel
theorem dX11_init_31 : decode cX11_init 31 = .ok (.invokestatic 12, 3) := by decide +kernel
theorem dX11_init_34 : decode cX11_init 34 = .ok (.invokespecial 20, 3) := by decide +kernel
theorem dX11_init_37 : decode cX11_init 37 = .ok (.putfield 23, 3) := by decide +kernel
theorem dX11_init_40 : decode cX11_init 40 = .ok (.aload_n 0, 1) := by decide +kernel
theorem dX11_init_41 : decode cX11_init 41 = .ok (.iload 4, 2) := by decide +kernel
theorem dX11_init_43 : decode cX11_init 43 = .ok (.iconst 1, 1) := by decide +kernel
theorem dX11_init_44 : decode cX11_init 44 = .ok (.bipush 64, 2) := by decide +kernel
theorem dX11_init_46 : decode cX11_init 46 = .ok (.invokestatic 12, 3) := by decide +kernel
theorem dX11_init_49 : decode cX11_init 49 = .ok (.putfield 27, 3) := by decide +kernel
theorem dX11_init_52 : decode cX11_init 52 = .ok (.aload_n 0, 1) := by decide +kernel
theorem dX11_init_53 : decode cX11_init 53 = .ok (.iconst 4, 1) := by decide +kernel
theorem dX11_init_54 : decode cX11_init 54 = .ok (.anewarray 31, 3) := by decide +kernel
theorem dX11_init_57 : decode cX11_init 57 = .ok (.putfield 33, 3) := by decide +kernel
theorem dX11_init_60 : decode cX11_init 60 = .ok (.iconst 0, 1) := by decide +kernel
theorem dX11_init_61 : decode cX11_init 61 = .ok (.istore 5, 2) := by decide +kernel
theorem dX11_init_63 : decode cX11_init 63 = .ok (.iload 5, 2) := by decide +kernel
theorem dX11_init_65 : decode cX11_init 65 = .ok (.iconst 4, 1) := by decide +kernel
theorem dX11_init_66 : decode cX11_init 66 = .ok (.if_icmp .ge 31, 3) := by decide +kernel
theorem dX11_init_69 : decode cX11_init 69 = .ok (.aload_n 0, 1) := by decide +kernel
theorem dX11_init_70 : decode cX11_init 70 = .ok (.getfield 33, 3) := by decide +kernel
theorem dX11_init_73 : decode cX11_init 73 = .ok (.iload 5, 2) := by decide +kernel
theorem dX11_init_75 : decode cX11_init 75 = .ok (.new 31, 3) := by decide +kernel
theorem dX11_init_78 : decode cX11_init 78 = .ok (.dup, 1) := by decide +kernel
theorem dX11_init_79 : decode cX11_init 79 = .ok (.aload_n 0, 1) := by decide +kernel
theorem dX11_init_80 : decode cX11_init 80 = .ok (.getfield 23, 3) := by decide +kernel
theorem dX11_init_83 : decode cX11_init 83 = .ok (.aload_n 0, 1) := by decide +kernel
theorem dX11_init_84 : decode cX11_init 84 = .ok (.getfield 27, 3) := by decide +kernel
theorem dX11_init_87 : decode cX11_init 87 = .ok (.invokespecial 37, 3) := by decide +kernel
theorem dX11_init_90 : decode cX11_init 90 = .ok (.aastore, 1) := by decide +kernel
theorem dX11_init_91 : decode cX11_init 91 = .ok (.iinc 5 1, 3) := by decide +kernel
theorem dX11_init_94 : decode cX11_init 94 = .ok (.goto (-31), 3) := by decide +kernel
theorem dX11_init_97 : decode cX11_init 97 = .ok (.aload_n 0, 1) := by decide +kernel
theorem dX11_init_98 : decode cX11_init 98 = .ok (.new 40, 3) := by decide +kernel
theorem dX11_init_101 : decode cX11_init 101 = .ok (.dup, 1) := by decide +kernel
theorem dX11_init_102 : decode cX11_init 102 = .ok (.aload_n 0, 1) := by decide +kernel
theorem dX11_init_103 : decode cX11_init 103 = .ok (.getfield 23, 3) := by decide +kernel
theorem dX11_init_106 : decode cX11_init 106 = .ok (.getfield 42, 3) := by decide +kernel
theorem dX11_init_109 : decode cX11_init 109 = .ok (.sipush 300, 3) := by decide +kernel
theorem dX11_init_112 : decode cX11_init 112 = .ok (.invokestatic 45, 3) := by decide +kernel
theorem dX11_init_115 : decode cX11_init 115 = .ok (.invokespecial 51, 3) := by decide +kernel
theorem dX11_init_118 : decode cX11_init 118 = .ok (.putfield 54, 3) := by decide +kernel
theorem dX11_init_121 : decode cX11_init 121 = .ok (.return_, 1) := by decide +kernel
theorem dX11_size_0 : decode cX11_size 0 = .ok (.iload_n 1, 1) := by decide +kernel
theorem dX11_size_1 : decode cX11_size 1 = .ok (.tableswitch 60 0 3 #[31, 39, 47, 55], 31) := by decide +kernel
theorem dX11_size_32 : decode cX11_size 32 = .ok (.aload_n 0, 1) := by decide +kernel
theorem dX11_size_33 : decode cX11_size 33 = .ok (.getfield 23, 3) := by decide +kernel
theorem dX11_size_36 : decode cX11_size 36 = .ok (.getfield 42, 3) := by decide +kernel
theorem dX11_size_39 : decode cX11_size 39 = .ok (.ireturn, 1) := by decide +kernel
theorem dX11_size_40 : decode cX11_size 40 = .ok (.aload_n 0, 1) := by decide +kernel
theorem dX11_size_41 : decode cX11_size 41 = .ok (.getfield 23, 3) := by decide +kernel
theorem dX11_size_44 : decode cX11_size 44 = .ok (.getfield 58, 3) := by decide +kernel
theorem dX11_size_47 : decode cX11_size 47 = .ok (.ireturn, 1) := by decide +kernel
theorem dX11_size_48 : decode cX11_size 48 = .ok (.aload_n 0, 1) := by decide +kernel
theorem dX11_size_49 : decode cX11_size 49 = .ok (.getfield 23, 3) := by decide +kernel
theorem dX11_size_52 : decode cX11_size 52 = .ok (.getfield 61, 3) := by decide +kernel
theorem dX11_size_55 : decode cX11_size 55 = .ok (.ireturn, 1) := by decide +kernel
theorem dX11_size_56 : decode cX11_size 56 = .ok (.aload_n 0, 1) := by decide +kernel
theorem dX11_size_57 : decode cX11_size 57 = .ok (.getfield 27, 3) := by decide +kernel
theorem dX11_size_60 : decode cX11_size 60 = .ok (.ireturn, 1) := by decide +kernel
theorem dX11_size_61 : decode cX11_size 61 = .ok (.iconst (-1), 1) := by decide +kernel
theorem dX11_size_62 : decode cX11_size 62 = .ok (.ireturn, 1) := by decide +kernel
theorem dX11_pair_0 : decode cX11_pair 0 = .ok (.aload_n 0, 1) := by decide +kernel
theorem dX11_pair_1 : decode cX11_pair 1 = .ok (.getfield 23, 3) := by decide +kernel
theorem dX11_pair_4 : decode cX11_pair 4 = .ok (.iload_n 1, 1) := by decide +kernel
theorem dX11_pair_5 : decode cX11_pair 5 = .ok (.invokevirtual 64, 3) := by decide +kernel
theorem dX11_pair_8 : decode cX11_pair 8 = .ok (.ifCond .eq 22, 3) := by decide +kernel
theorem dX11_pair_11 : decode cX11_pair 11 = .ok (.aload_n 0, 1) := by decide +kernel
theorem dX11_pair_12 : decode cX11_pair 12 = .ok (.getfield 23, 3) := by decide +kernel
theorem dX11_pair_15 : decode cX11_pair 15 = .ok (.iload_n 2, 1) := by decide +kernel
theorem dX11_pair_16 : decode cX11_pair 16 = .ok (.iload_n 3, 1) := by decide +kernel
theorem dX11_pair_17 : decode cX11_pair 17 = .ok (.invokevirtual 68, 3) := by decide +kernel
theorem dX11_pair_20 : decode cX11_pair 20 = .ok (.ifCond .eq 10, 3) := by decide +kernel
theorem dX11_pair_23 : decode cX11_pair 23 = .ok (.aload_n 0, 1) := by decide +kernel
theorem dX11_pair_24 : decode cX11_pair 24 = .ok (.invokevirtual 72, 3) := by decide +kernel
theorem dX11_pair_27 : decode cX11_pair 27 = .ok (.ifCond .ne 5, 3) := by decide +kernel
theorem dX11_pair_30 : decode cX11_pair 30 = .ok (.iconst 0, 1) := by decide +kernel
theorem dX11_pair_31 : decode cX11_pair 31 = .ok (.ireturn, 1) := by decide +kernel
theorem dX11_pair_32 : decode cX11_pair 32 = .ok (.aload_n 0, 1) := by decide +kernel
theorem dX11_pair_33 : decode cX11_pair 33 = .ok (.getfield 23, 3) := by decide +kernel
theorem dX11_pair_36 : decode cX11_pair 36 = .ok (.iload_n 1, 1) := by decide +kernel
theorem dX11_pair_37 : decode cX11_pair 37 = .ok (.iload_n 2, 1) := by decide +kernel
theorem dX11_pair_38 : decode cX11_pair 38 = .ok (.iload_n 3, 1) := by decide +kernel
theorem dX11_pair_39 : decode cX11_pair 39 = .ok (.invokevirtual 76, 3) := by decide +kernel
theorem dX11_pair_42 : decode cX11_pair 42 = .ok (.iconst 1, 1) := by decide +kernel
theorem dX11_pair_43 : decode cX11_pair 43 = .ok (.ireturn, 1) := by decide +kernel
theorem dX11_hash_0 : decode cX11_hash 0 = .ok (.aload_n 0, 1) := by decide +kernel
theorem dX11_hash_1 : decode cX11_hash 1 = .ok (.getfield 23, 3) := by decide +kernel
theorem dX11_hash_4 : decode cX11_hash 4 = .ok (.iload_n 1, 1) := by decide +kernel
theorem dX11_hash_5 : decode cX11_hash 5 = .ok (.invokevirtual 64, 3) := by decide +kernel
theorem dX11_hash_8 : decode cX11_hash 8 = .ok (.ifCond .eq 14, 3) := by decide +kernel
theorem dX11_hash_11 : decode cX11_hash 11 = .ok (.aload_n 0, 1) := by decide +kernel
theorem dX11_hash_12 : decode cX11_hash 12 = .ok (.getfield 23, 3) := by decide +kernel
theorem dX11_hash_15 : decode cX11_hash 15 = .ok (.iload_n 2, 1) := by decide +kernel
theorem dX11_hash_16 : decode cX11_hash 16 = .ok (.invokevirtual 79, 3) := by decide +kernel
theorem dX11_hash_19 : decode cX11_hash 19 = .ok (.ifCond .ne 5, 3) := by decide +kernel
theorem dX11_hash_22 : decode cX11_hash 22 = .ok (.iconst (-1), 1) := by decide +kernel
theorem dX11_hash_23 : decode cX11_hash 23 = .ok (.ireturn, 1) := by decide +kernel
theorem dX11_hash_24 : decode cX11_hash 24 = .ok (.aload_n 0, 1) := by decide +kernel
theorem dX11_hash_25 : decode cX11_hash 25 = .ok (.getfield 23, 3) := by decide +kernel
theorem dX11_hash_28 : decode cX11_hash 28 = .ok (.iload_n 1, 1) := by decide +kernel
theorem dX11_hash_29 : decode cX11_hash 29 = .ok (.iload_n 2, 1) := by decide +kernel
theorem dX11_hash_30 : decode cX11_hash 30 = .ok (.invokevirtual 82, 3) := by decide +kernel
theorem dX11_hash_33 : decode cX11_hash 33 = .ok (.ireturn, 1) := by decide +kernel
theorem dX11_add_0 : decode cX11_add 0 = .ok (.aload_n 0, 1) := by decide +kernel
theorem dX11_add_1 : decode cX11_add 1 = .ok (.iload_n 1, 1) := by decide +kernel
theorem dX11_add_2 : decode cX11_add 2 = .ok (.invokevirtual 85, 3) := by decide +kernel
theorem dX11_add_5 : decode cX11_add 5 = .ok (.astore 4, 2) := by decide +kernel
theorem dX11_add_7 : decode cX11_add 7 = .ok (.aload 4, 2) := by decide +kernel
theorem dX11_add_9 : decode cX11_add 9 = .ok (.ifnull 26, 3) := by decide +kernel
theorem dX11_add_12 : decode cX11_add 12 = .ok (.aload_n 0, 1) := by decide +kernel
theorem dX11_add_13 : decode cX11_add 13 = .ok (.getfield 23, 3) := by decide +kernel
theorem dX11_add_16 : decode cX11_add 16 = .ok (.iload_n 2, 1) := by decide +kernel
theorem dX11_add_17 : decode cX11_add 17 = .ok (.invokevirtual 79, 3) := by decide +kernel
theorem dX11_add_20 : decode cX11_add 20 = .ok (.ifCond .eq 15, 3) := by decide +kernel
theorem dX11_add_23 : decode cX11_add 23 = .ok (.iload_n 3, 1) := by decide +kernel
theorem dX11_add_24 : decode cX11_add 24 = .ok (.iconst 1, 1) := by decide +kernel
theorem dX11_add_25 : decode cX11_add 25 = .ok (.if_icmp .lt 10, 3) := by decide +kernel
theorem dX11_add_28 : decode cX11_add 28 = .ok (.iload_n 3, 1) := by decide +kernel
theorem dX11_add_29 : decode cX11_add 29 = .ok (.sipush 1000, 3) := by decide +kernel
theorem dX11_add_32 : decode cX11_add 32 = .ok (.if_icmp .le 7, 3) := by decide +kernel
theorem dX11_add_35 : decode cX11_add 35 = .ok (.ldc2_w 89, 3) := by decide +kernel
theorem dX11_add_38 : decode cX11_add 38 = .ok (.lreturn, 1) := by decide +kernel
theorem dX11_add_39 : decode cX11_add 39 = .ok (.aload 4, 2) := by decide +kernel
theorem dX11_add_41 : decode cX11_add 41 = .ok (.getfield 91, 3) := by decide +kernel
theorem dX11_add_44 : decode cX11_add 44 = .ok (.iload_n 3, 1) := by decide +kernel
theorem dX11_add_45 : decode cX11_add 45 = .ok (.i2l, 1) := by decide +kernel
theorem dX11_add_46 : decode cX11_add 46 = .ok (.ladd, 1) := by decide +kernel
theorem dX11_add_47 : decode cX11_add 47 = .ok (.ldc2_w 95, 3) := by decide +kernel
theorem dX11_add_50 : decode cX11_add 50 = .ok (.lcmp, 1) := by decide +kernel
theorem dX11_add_51 : decode cX11_add 51 = .ok (.ifCond .le 7, 3) := by decide +kernel
theorem dX11_add_54 : decode cX11_add 54 = .ok (.ldc2_w 89, 3) := by decide +kernel
theorem dX11_add_57 : decode cX11_add 57 = .ok (.lreturn, 1) := by decide +kernel
theorem dX11_add_58 : decode cX11_add 58 = .ok (.aload 4, 2) := by decide +kernel
theorem dX11_add_60 : decode cX11_add 60 = .ok (.iload_n 2, 1) := by decide +kernel
theorem dX11_add_61 : decode cX11_add 61 = .ok (.iload_n 3, 1) := by decide +kernel
theorem dX11_add_62 : decode cX11_add 62 = .ok (.invokevirtual 97, 3) := by decide +kernel
theorem dX11_add_65 : decode cX11_add 65 = .ok (.aload 4, 2) := by decide +kernel
theorem dX11_add_67 : decode cX11_add 67 = .ok (.getfield 91, 3) := by decide +kernel
theorem dX11_add_70 : decode cX11_add 70 = .ok (.lreturn, 1) := by decide +kernel
theorem dX11_clear_0 : decode cX11_clear 0 = .ok (.aload_n 0, 1) := by decide +kernel
theorem dX11_clear_1 : decode cX11_clear 1 = .ok (.iload_n 1, 1) := by decide +kernel
theorem dX11_clear_2 : decode cX11_clear 2 = .ok (.invokevirtual 85, 3) := by decide +kernel
theorem dX11_clear_5 : decode cX11_clear 5 = .ok (.astore_n 2, 1) := by decide +kernel
theorem dX11_clear_6 : decode cX11_clear 6 = .ok (.aload_n 2, 1) := by decide +kernel
theorem dX11_clear_7 : decode cX11_clear 7 = .ok (.ifnonnull 5, 3) := by decide +kernel
theorem dX11_clear_10 : decode cX11_clear 10 = .ok (.iconst 0, 1) := by decide +kernel
theorem dX11_clear_11 : decode cX11_clear 11 = .ok (.ireturn, 1) := by decide +kernel
theorem dX11_clear_12 : decode cX11_clear 12 = .ok (.aload_n 2, 1) := by decide +kernel
theorem dX11_clear_13 : decode cX11_clear 13 = .ok (.invokevirtual 101, 3) := by decide +kernel
theorem dX11_clear_16 : decode cX11_clear 16 = .ok (.iconst 1, 1) := by decide +kernel
theorem dX11_clear_17 : decode cX11_clear 17 = .ok (.ireturn, 1) := by decide +kernel
theorem dX11_copy_0 : decode cX11_copy 0 = .ok (.aload_n 0, 1) := by decide +kernel
theorem dX11_copy_1 : decode cX11_copy 1 = .ok (.iload_n 1, 1) := by decide +kernel
theorem dX11_copy_2 : decode cX11_copy 2 = .ok (.invokevirtual 85, 3) := by decide +kernel
theorem dX11_copy_5 : decode cX11_copy 5 = .ok (.astore_n 3, 1) := by decide +kernel
theorem dX11_copy_6 : decode cX11_copy 6 = .ok (.aload_n 0, 1) := by decide +kernel
theorem dX11_copy_7 : decode cX11_copy 7 = .ok (.iload_n 2, 1) := by decide +kernel
theorem dX11_copy_8 : decode cX11_copy 8 = .ok (.invokevirtual 85, 3) := by decide +kernel
theorem dX11_copy_11 : decode cX11_copy 11 = .ok (.astore 4, 2) := by decide +kernel
theorem dX11_copy_13 : decode cX11_copy 13 = .ok (.aload_n 3, 1) := by decide +kernel
theorem dX11_copy_14 : decode cX11_copy 14 = .ok (.ifnull 8, 3) := by decide +kernel
theorem dX11_copy_17 : decode cX11_copy 17 = .ok (.aload 4, 2) := by decide +kernel
theorem dX11_copy_19 : decode cX11_copy 19 = .ok (.ifnonnull 5, 3) := by decide +kernel
theorem dX11_copy_22 : decode cX11_copy 22 = .ok (.iconst 0, 1) := by decide +kernel
theorem dX11_copy_23 : decode cX11_copy 23 = .ok (.ireturn, 1) := by decide +kernel
theorem dX11_copy_24 : decode cX11_copy 24 = .ok (.aload_n 3, 1) := by decide +kernel
theorem dX11_copy_25 : decode cX11_copy 25 = .ok (.aload 4, 2) := by decide +kernel
theorem dX11_copy_27 : decode cX11_copy 27 = .ok (.invokevirtual 104, 3) := by decide +kernel
theorem dX11_copy_30 : decode cX11_copy 30 = .ok (.iconst 1, 1) := by decide +kernel
theorem dX11_copy_31 : decode cX11_copy 31 = .ok (.ireturn, 1) := by decide +kernel
theorem dX11_join_0 : decode cX11_join 0 = .ok (.aload_n 0, 1) := by decide +kernel
theorem dX11_join_1 : decode cX11_join 1 = .ok (.iload_n 1, 1) := by decide +kernel
theorem dX11_join_2 : decode cX11_join 2 = .ok (.invokevirtual 85, 3) := by decide +kernel
theorem dX11_join_5 : decode cX11_join 5 = .ok (.astore_n 3, 1) := by decide +kernel
theorem dX11_join_6 : decode cX11_join 6 = .ok (.aload_n 0, 1) := by decide +kernel
theorem dX11_join_7 : decode cX11_join 7 = .ok (.iload_n 2, 1) := by decide +kernel
theorem dX11_join_8 : decode cX11_join 8 = .ok (.invokevirtual 85, 3) := by decide +kernel
theorem dX11_join_11 : decode cX11_join 11 = .ok (.astore 4, 2) := by decide +kernel
theorem dX11_join_13 : decode cX11_join 13 = .ok (.aload_n 3, 1) := by decide +kernel
theorem dX11_join_14 : decode cX11_join 14 = .ok (.ifnull 25, 3) := by decide +kernel
theorem dX11_join_17 : decode cX11_join 17 = .ok (.aload 4, 2) := by decide +kernel
theorem dX11_join_19 : decode cX11_join 19 = .ok (.ifnull 20, 3) := by decide +kernel
theorem dX11_join_22 : decode cX11_join 22 = .ok (.aload_n 3, 1) := by decide +kernel
theorem dX11_join_23 : decode cX11_join 23 = .ok (.getfield 91, 3) := by decide +kernel
theorem dX11_join_26 : decode cX11_join 26 = .ok (.aload 4, 2) := by decide +kernel
theorem dX11_join_28 : decode cX11_join 28 = .ok (.getfield 91, 3) := by decide +kernel
theorem dX11_join_31 : decode cX11_join 31 = .ok (.ladd, 1) := by decide +kernel
theorem dX11_join_32 : decode cX11_join 32 = .ok (.ldc2_w 95, 3) := by decide +kernel
theorem dX11_join_35 : decode cX11_join 35 = .ok (.lcmp, 1) := by decide +kernel
theorem dX11_join_36 : decode cX11_join 36 = .ok (.ifCond .le 7, 3) := by decide +kernel
theorem dX11_join_39 : decode cX11_join 39 = .ok (.ldc2_w 89, 3) := by decide +kernel
theorem dX11_join_42 : decode cX11_join 42 = .ok (.lreturn, 1) := by decide +kernel
theorem dX11_join_43 : decode cX11_join 43 = .ok (.aload_n 3, 1) := by decide +kernel
theorem dX11_join_44 : decode cX11_join 44 = .ok (.aload 4, 2) := by decide +kernel
theorem dX11_join_46 : decode cX11_join 46 = .ok (.invokevirtual 108, 3) := by decide +kernel
theorem dX11_join_49 : decode cX11_join 49 = .ok (.aload_n 3, 1) := by decide +kernel
theorem dX11_join_50 : decode cX11_join 50 = .ok (.getfield 91, 3) := by decide +kernel
theorem dX11_join_53 : decode cX11_join 53 = .ok (.lreturn, 1) := by decide +kernel
theorem dX11_total_0 : decode cX11_total 0 = .ok (.aload_n 0, 1) := by decide +kernel
theorem dX11_total_1 : decode cX11_total 1 = .ok (.iload_n 1, 1) := by decide +kernel
theorem dX11_total_2 : decode cX11_total 2 = .ok (.invokevirtual 85, 3) := by decide +kernel
theorem dX11_total_5 : decode cX11_total 5 = .ok (.astore_n 2, 1) := by decide +kernel
theorem dX11_total_6 : decode cX11_total 6 = .ok (.aload_n 2, 1) := by decide +kernel
theorem dX11_total_7 : decode cX11_total 7 = .ok (.ifnonnull 9, 3) := by decide +kernel
theorem dX11_total_10 : decode cX11_total 10 = .ok (.ldc2_w 89, 3) := by decide +kernel
theorem dX11_total_13 : decode cX11_total 13 = .ok (.goto 7, 3) := by decide +kernel
theorem dX11_total_16 : decode cX11_total 16 = .ok (.aload_n 2, 1) := by decide +kernel
theorem dX11_total_17 : decode cX11_total 17 = .ok (.getfield 91, 3) := by decide +kernel
theorem dX11_total_20 : decode cX11_total 20 = .ok (.lreturn, 1) := by decide +kernel
theorem dX11_estimate_0 : decode cX11_estimate 0 = .ok (.aload_n 0, 1) := by decide +kernel
theorem dX11_estimate_1 : decode cX11_estimate 1 = .ok (.iload_n 1, 1) := by decide +kernel
theorem dX11_estimate_2 : decode cX11_estimate 2 = .ok (.iload_n 2, 1) := by decide +kernel
theorem dX11_estimate_3 : decode cX11_estimate 3 = .ok (.invokevirtual 111, 3) := by decide +kernel
theorem dX11_estimate_6 : decode cX11_estimate 6 = .ok (.astore 5, 2) := by decide +kernel
theorem dX11_estimate_8 : decode cX11_estimate 8 = .ok (.aload 5, 2) := by decide +kernel
theorem dX11_estimate_10 : decode cX11_estimate 10 = .ok (.ifnull 14, 3) := by decide +kernel
theorem dX11_estimate_13 : decode cX11_estimate 13 = .ok (.aload_n 0, 1) := by decide +kernel
theorem dX11_estimate_14 : decode cX11_estimate 14 = .ok (.getfield 23, 3) := by decide +kernel
theorem dX11_estimate_17 : decode cX11_estimate 17 = .ok (.iload_n 3, 1) := by decide +kernel
theorem dX11_estimate_18 : decode cX11_estimate 18 = .ok (.invokevirtual 79, 3) := by decide +kernel
theorem dX11_estimate_21 : decode cX11_estimate 21 = .ok (.ifCond .ne 7, 3) := by decide +kernel
theorem dX11_estimate_24 : decode cX11_estimate 24 = .ok (.ldc2_w 89, 3) := by decide +kernel
theorem dX11_estimate_27 : decode cX11_estimate 27 = .ok (.lreturn, 1) := by decide +kernel
theorem dX11_estimate_28 : decode cX11_estimate 28 = .ok (.iload 4, 2) := by decide +kernel
theorem dX11_estimate_30 : decode cX11_estimate 30 = .ok (.tableswitch 53 0 2 #[26, 35, 44], 26) := by decide +kernel
theorem dX11_estimate_56 : decode cX11_estimate 56 = .ok (.aload 5, 2) := by decide +kernel
theorem dX11_estimate_58 : decode cX11_estimate 58 = .ok (.iload_n 3, 1) := by decide +kernel
theorem dX11_estimate_59 : decode cX11_estimate 59 = .ok (.invokeinterface 115 2, 5) := by decide +kernel
theorem dX11_estimate_64 : decode cX11_estimate 64 = .ok (.lreturn, 1) := by decide +kernel
theorem dX11_estimate_65 : decode cX11_estimate 65 = .ok (.aload 5, 2) := by decide +kernel
theorem dX11_estimate_67 : decode cX11_estimate 67 = .ok (.iload_n 3, 1) := by decide +kernel
theorem dX11_estimate_68 : decode cX11_estimate 68 = .ok (.invokeinterface 121 2, 5) := by decide +kernel
theorem dX11_estimate_73 : decode cX11_estimate 73 = .ok (.lreturn, 1) := by decide +kernel
theorem dX11_estimate_74 : decode cX11_estimate 74 = .ok (.aload 5, 2) := by decide +kernel
theorem dX11_estimate_76 : decode cX11_estimate 76 = .ok (.iload_n 3, 1) := by decide +kernel
theorem dX11_estimate_77 : decode cX11_estimate 77 = .ok (.invokeinterface 124 2, 5) := by decide +kernel
theorem dX11_estimate_82 : decode cX11_estimate 82 = .ok (.lreturn, 1) := by decide +kernel
theorem dX11_estimate_83 : decode cX11_estimate 83 = .ok (.ldc2_w 89, 3) := by decide +kernel
theorem dX11_estimate_86 : decode cX11_estimate 86 = .ok (.lreturn, 1) := by decide +kernel
theorem dX11_count_0 : decode cX11_count 0 = .ok (.aload_n 0, 1) := by decide +kernel
theorem dX11_count_1 : decode cX11_count 1 = .ok (.iload_n 1, 1) := by decide +kernel
theorem dX11_count_2 : decode cX11_count 2 = .ok (.invokevirtual 85, 3) := by decide +kernel
theorem dX11_count_5 : decode cX11_count 5 = .ok (.astore_n 3, 1) := by decide +kernel
theorem dX11_count_6 : decode cX11_count 6 = .ok (.aload_n 3, 1) := by decide +kernel
theorem dX11_count_7 : decode cX11_count 7 = .ok (.ifnull 24, 3) := by decide +kernel
theorem dX11_count_10 : decode cX11_count 10 = .ok (.aload_n 0, 1) := by decide +kernel
theorem dX11_count_11 : decode cX11_count 11 = .ok (.getfield 23, 3) := by decide +kernel
theorem dX11_count_14 : decode cX11_count 14 = .ok (.iload_n 2, 1) := by decide +kernel
theorem dX11_count_15 : decode cX11_count 15 = .ok (.invokevirtual 79, 3) := by decide +kernel
theorem dX11_count_18 : decode cX11_count 18 = .ok (.ifCond .eq 13, 3) := by decide +kernel
theorem dX11_count_21 : decode cX11_count 21 = .ok (.aload_n 3, 1) := by decide +kernel
theorem dX11_count_22 : decode cX11_count 22 = .ok (.getfield 127, 3) := by decide +kernel
theorem dX11_count_25 : decode cX11_count 25 = .ok (.getfield 131, 3) := by decide +kernel
theorem dX11_count_28 : decode cX11_count 28 = .ok (.ifCond .eq 7, 3) := by decide +kernel
theorem dX11_count_31 : decode cX11_count 31 = .ok (.ldc2_w 89, 3) := by decide +kernel
theorem dX11_count_34 : decode cX11_count 34 = .ok (.lreturn, 1) := by decide +kernel
theorem dX11_count_35 : decode cX11_count 35 = .ok (.aload_n 3, 1) := by decide +kernel
theorem dX11_count_36 : decode cX11_count 36 = .ok (.getfield 127, 3) := by decide +kernel
theorem dX11_count_39 : decode cX11_count 39 = .ok (.iload_n 2, 1) := by decide +kernel
theorem dX11_count_40 : decode cX11_count 40 = .ok (.invokevirtual 137, 3) := by decide +kernel
theorem dX11_count_43 : decode cX11_count 43 = .ok (.lreturn, 1) := by decide +kernel
theorem dX11_cell_0 : decode cX11_cell 0 = .ok (.aload_n 0, 1) := by decide +kernel
theorem dX11_cell_1 : decode cX11_cell 1 = .ok (.iload_n 1, 1) := by decide +kernel
theorem dX11_cell_2 : decode cX11_cell 2 = .ok (.invokevirtual 85, 3) := by decide +kernel
theorem dX11_cell_5 : decode cX11_cell 5 = .ok (.astore 5, 2) := by decide +kernel
theorem dX11_cell_7 : decode cX11_cell 7 = .ok (.aload 5, 2) := by decide +kernel
theorem dX11_cell_9 : decode cX11_cell 9 = .ok (.ifnull 31, 3) := by decide +kernel
theorem dX11_cell_12 : decode cX11_cell 12 = .ok (.aload_n 0, 1) := by decide +kernel
theorem dX11_cell_13 : decode cX11_cell 13 = .ok (.getfield 23, 3) := by decide +kernel
theorem dX11_cell_16 : decode cX11_cell 16 = .ok (.iload_n 3, 1) := by decide +kernel
theorem dX11_cell_17 : decode cX11_cell 17 = .ok (.invokevirtual 64, 3) := by decide +kernel
theorem dX11_cell_20 : decode cX11_cell 20 = .ok (.ifCond .eq 20, 3) := by decide +kernel
theorem dX11_cell_23 : decode cX11_cell 23 = .ok (.iload 4, 2) := by decide +kernel
theorem dX11_cell_25 : decode cX11_cell 25 = .ok (.ifCond .lt 15, 3) := by decide +kernel
theorem dX11_cell_28 : decode cX11_cell 28 = .ok (.iload 4, 2) := by decide +kernel
theorem dX11_cell_30 : decode cX11_cell 30 = .ok (.aload_n 0, 1) := by decide +kernel
theorem dX11_cell_31 : decode cX11_cell 31 = .ok (.getfield 23, 3) := by decide +kernel
theorem dX11_cell_34 : decode cX11_cell 34 = .ok (.getfield 58, 3) := by decide +kernel
theorem dX11_cell_37 : decode cX11_cell 37 = .ok (.if_icmp .lt 7, 3) := by decide +kernel
theorem dX11_cell_40 : decode cX11_cell 40 = .ok (.ldc2_w 89, 3) := by decide +kernel
theorem dX11_cell_43 : decode cX11_cell 43 = .ok (.lreturn, 1) := by decide +kernel
theorem dX11_cell_44 : decode cX11_cell 44 = .ok (.iload_n 2, 1) := by decide +kernel
theorem dX11_cell_45 : decode cX11_cell 45 = .ok (.lookupswitch 51 #[(0, 27), (1, 39)], 27) := by decide +kernel
theorem dX11_cell_72 : decode cX11_cell 72 = .ok (.aload 5, 2) := by decide +kernel
theorem dX11_cell_74 : decode cX11_cell 74 = .ok (.getfield 140, 3) := by decide +kernel
theorem dX11_cell_77 : decode cX11_cell 77 = .ok (.iload_n 3, 1) := by decide +kernel
theorem dX11_cell_78 : decode cX11_cell 78 = .ok (.iload 4, 2) := by decide +kernel
theorem dX11_cell_80 : decode cX11_cell 80 = .ok (.invokevirtual 144, 3) := by decide +kernel
theorem dX11_cell_83 : decode cX11_cell 83 = .ok (.lreturn, 1) := by decide +kernel
theorem dX11_cell_84 : decode cX11_cell 84 = .ok (.aload 5, 2) := by decide +kernel
theorem dX11_cell_86 : decode cX11_cell 86 = .ok (.getfield 150, 3) := by decide +kernel
theorem dX11_cell_89 : decode cX11_cell 89 = .ok (.iload_n 3, 1) := by decide +kernel
theorem dX11_cell_90 : decode cX11_cell 90 = .ok (.iload 4, 2) := by decide +kernel
theorem dX11_cell_92 : decode cX11_cell 92 = .ok (.invokevirtual 144, 3) := by decide +kernel
theorem dX11_cell_95 : decode cX11_cell 95 = .ok (.lreturn, 1) := by decide +kernel
theorem dX11_cell_96 : decode cX11_cell 96 = .ok (.ldc2_w 89, 3) := by decide +kernel
theorem dX11_cell_99 : decode cX11_cell 99 = .ok (.lreturn, 1) := by decide +kernel
theorem dX11_counter_0 : decode cX11_counter 0 = .ok (.aload_n 0, 1) := by decide +kernel
theorem dX11_counter_1 : decode cX11_counter 1 = .ok (.iload_n 1, 1) := by decide +kernel
theorem dX11_counter_2 : decode cX11_counter 2 = .ok (.invokevirtual 85, 3) := by decide +kernel
theorem dX11_counter_5 : decode cX11_counter 5 = .ok (.astore 5, 2) := by decide +kernel
theorem dX11_counter_7 : decode cX11_counter 7 = .ok (.aload 5, 2) := by decide +kernel
theorem dX11_counter_9 : decode cX11_counter 9 = .ok (.ifnonnull 7, 3) := by decide +kernel
theorem dX11_counter_12 : decode cX11_counter 12 = .ok (.ldc2_w 89, 3) := by decide +kernel
theorem dX11_counter_15 : decode cX11_counter 15 = .ok (.lreturn, 1) := by decide +kernel
theorem dX11_counter_16 : decode cX11_counter 16 = .ok (.iload_n 2, 1) := by decide +kernel
theorem dX11_counter_17 : decode cX11_counter 17 = .ok (.lookupswitch 57 #[(2, 27), (3, 42)], 27) := by decide +kernel
theorem dX11_counter_44 : decode cX11_counter 44 = .ok (.aload 5, 2) := by decide +kernel
theorem dX11_counter_46 : decode cX11_counter 46 = .ok (.getfield 153, 3) := by decide +kernel
theorem dX11_counter_49 : decode cX11_counter 49 = .ok (.getfield 157, 3) := by decide +kernel
theorem dX11_counter_52 : decode cX11_counter 52 = .ok (.iload_n 3, 1) := by decide +kernel
theorem dX11_counter_53 : decode cX11_counter 53 = .ok (.iload 4, 2) := by decide +kernel
theorem dX11_counter_55 : decode cX11_counter 55 = .ok (.invokevirtual 163, 3) := by decide +kernel
theorem dX11_counter_58 : decode cX11_counter 58 = .ok (.lreturn, 1) := by decide +kernel
theorem dX11_counter_59 : decode cX11_counter 59 = .ok (.aload 5, 2) := by decide +kernel
theorem dX11_counter_61 : decode cX11_counter 61 = .ok (.getfield 168, 3) := by decide +kernel
theorem dX11_counter_64 : decode cX11_counter 64 = .ok (.getfield 172, 3) := by decide +kernel
theorem dX11_counter_67 : decode cX11_counter 67 = .ok (.iload_n 3, 1) := by decide +kernel
theorem dX11_counter_68 : decode cX11_counter 68 = .ok (.iload 4, 2) := by decide +kernel
theorem dX11_counter_70 : decode cX11_counter 70 = .ok (.invokevirtual 163, 3) := by decide +kernel
theorem dX11_counter_73 : decode cX11_counter 73 = .ok (.lreturn, 1) := by decide +kernel
theorem dX11_counter_74 : decode cX11_counter 74 = .ok (.ldc2_w 89, 3) := by decide +kernel
theorem dX11_counter_77 : decode cX11_counter 77 = .ok (.lreturn, 1) := by decide +kernel
theorem dX11_state_0 : decode cX11_state 0 = .ok (.aload_n 0, 1) := by decide +kernel
theorem dX11_state_1 : decode cX11_state 1 = .ok (.iload_n 1, 1) := by decide +kernel
theorem dX11_state_2 : decode cX11_state 2 = .ok (.invokevirtual 85, 3) := by decide +kernel
theorem dX11_state_5 : decode cX11_state 5 = .ok (.astore_n 3, 1) := by decide +kernel
theorem dX11_state_6 : decode cX11_state 6 = .ok (.aload_n 3, 1) := by decide +kernel
theorem dX11_state_7 : decode cX11_state 7 = .ok (.ifnonnull 7, 3) := by decide +kernel
theorem dX11_state_10 : decode cX11_state 10 = .ok (.ldc2_w 89, 3) := by decide +kernel
theorem dX11_state_13 : decode cX11_state 13 = .ok (.lreturn, 1) := by decide +kernel
theorem dX11_state_14 : decode cX11_state 14 = .ok (.iload_n 2, 1) := by decide +kernel
theorem dX11_state_15 : decode cX11_state 15 = .ok (.tableswitch 98 0 4 #[33, 45, 53, 65, 73], 33) := by decide +kernel
theorem dX11_state_48 : decode cX11_state 48 = .ok (.aload_n 3, 1) := by decide +kernel
theorem dX11_state_49 : decode cX11_state 49 = .ok (.getfield 153, 3) := by decide +kernel
theorem dX11_state_52 : decode cX11_state 52 = .ok (.getfield 157, 3) := by decide +kernel
theorem dX11_state_55 : decode cX11_state 55 = .ok (.getfield 175, 3) := by decide +kernel
theorem dX11_state_58 : decode cX11_state 58 = .ok (.i2l, 1) := by decide +kernel
theorem dX11_state_59 : decode cX11_state 59 = .ok (.lreturn, 1) := by decide +kernel
theorem dX11_state_60 : decode cX11_state 60 = .ok (.aload_n 3, 1) := by decide +kernel
theorem dX11_state_61 : decode cX11_state 61 = .ok (.getfield 153, 3) := by decide +kernel
theorem dX11_state_64 : decode cX11_state 64 = .ok (.getfield 178, 3) := by decide +kernel
theorem dX11_state_67 : decode cX11_state 67 = .ok (.lreturn, 1) := by decide +kernel
theorem dX11_state_68 : decode cX11_state 68 = .ok (.aload_n 3, 1) := by decide +kernel
theorem dX11_state_69 : decode cX11_state 69 = .ok (.getfield 168, 3) := by decide +kernel
theorem dX11_state_72 : decode cX11_state 72 = .ok (.getfield 172, 3) := by decide +kernel
theorem dX11_state_75 : decode cX11_state 75 = .ok (.getfield 175, 3) := by decide +kernel
theorem dX11_state_78 : decode cX11_state 78 = .ok (.i2l, 1) := by decide +kernel
theorem dX11_state_79 : decode cX11_state 79 = .ok (.lreturn, 1) := by decide +kernel
theorem dX11_state_80 : decode cX11_state 80 = .ok (.aload_n 3, 1) := by decide +kernel
theorem dX11_state_81 : decode cX11_state 81 = .ok (.getfield 168, 3) := by decide +kernel
theorem dX11_state_84 : decode cX11_state 84 = .ok (.invokevirtual 181, 3) := by decide +kernel
theorem dX11_state_87 : decode cX11_state 87 = .ok (.lreturn, 1) := by decide +kernel
theorem dX11_state_88 : decode cX11_state 88 = .ok (.aload_n 3, 1) := by decide +kernel
theorem dX11_state_89 : decode cX11_state 89 = .ok (.getfield 127, 3) := by decide +kernel
theorem dX11_state_92 : decode cX11_state 92 = .ok (.getfield 131, 3) := by decide +kernel
theorem dX11_state_95 : decode cX11_state 95 = .ok (.ifCond .eq 9, 3) := by decide +kernel
theorem dX11_state_98 : decode cX11_state 98 = .ok (.ldc2_w 89, 3) := by decide +kernel
theorem dX11_state_101 : decode cX11_state 101 = .ok (.goto 11, 3) := by decide +kernel
theorem dX11_state_104 : decode cX11_state 104 = .ok (.aload_n 3, 1) := by decide +kernel
theorem dX11_state_105 : decode cX11_state 105 = .ok (.getfield 127, 3) := by decide +kernel
theorem dX11_state_108 : decode cX11_state 108 = .ok (.getfield 185, 3) := by decide +kernel
theorem dX11_state_111 : decode cX11_state 111 = .ok (.i2l, 1) := by decide +kernel
theorem dX11_state_112 : decode cX11_state 112 = .ok (.lreturn, 1) := by decide +kernel
theorem dX11_state_113 : decode cX11_state 113 = .ok (.ldc2_w 89, 3) := by decide +kernel
theorem dX11_state_116 : decode cX11_state 116 = .ok (.lreturn, 1) := by decide +kernel
theorem dX11_report_0 : decode cX11_report 0 = .ok (.aload_n 0, 1) := by decide +kernel
theorem dX11_report_1 : decode cX11_report 1 = .ok (.iload_n 1, 1) := by decide +kernel
theorem dX11_report_2 : decode cX11_report 2 = .ok (.invokevirtual 85, 3) := by decide +kernel
theorem dX11_report_5 : decode cX11_report 5 = .ok (.astore 5, 2) := by decide +kernel
theorem dX11_report_7 : decode cX11_report 7 = .ok (.aload_n 0, 1) := by decide +kernel
theorem dX11_report_8 : decode cX11_report 8 = .ok (.iload_n 1, 1) := by decide +kernel
theorem dX11_report_9 : decode cX11_report 9 = .ok (.iload_n 2, 1) := by decide +kernel
theorem dX11_report_10 : decode cX11_report 10 = .ok (.invokevirtual 111, 3) := by decide +kernel
theorem dX11_report_13 : decode cX11_report 13 = .ok (.astore 6, 2) := by decide +kernel
theorem dX11_report_15 : decode cX11_report 15 = .ok (.aload 5, 2) := by decide +kernel
theorem dX11_report_17 : decode cX11_report 17 = .ok (.ifnull 19, 3) := by decide +kernel
theorem dX11_report_20 : decode cX11_report 20 = .ok (.aload 6, 2) := by decide +kernel
theorem dX11_report_22 : decode cX11_report 22 = .ok (.ifnull 14, 3) := by decide +kernel
theorem dX11_report_25 : decode cX11_report 25 = .ok (.iload_n 3, 1) := by decide +kernel
theorem dX11_report_26 : decode cX11_report 26 = .ok (.iconst 1, 1) := by decide +kernel
theorem dX11_report_27 : decode cX11_report 27 = .ok (.if_icmp .lt 9, 3) := by decide +kernel
theorem dX11_report_30 : decode cX11_report 30 = .ok (.iload_n 3, 1) := by decide +kernel
theorem dX11_report_31 : decode cX11_report 31 = .ok (.ldc 186, 2) := by decide +kernel
theorem dX11_report_33 : decode cX11_report 33 = .ok (.if_icmp .le 5, 3) := by decide +kernel
theorem dX11_report_36 : decode cX11_report 36 = .ok (.iconst (-1), 1) := by decide +kernel
theorem dX11_report_37 : decode cX11_report 37 = .ok (.ireturn, 1) := by decide +kernel
theorem dX11_report_38 : decode cX11_report 38 = .ok (.aload 5, 2) := by decide +kernel
theorem dX11_report_40 : decode cX11_report 40 = .ok (.getfield 91, 3) := by decide +kernel
theorem dX11_report_43 : decode cX11_report 43 = .ok (.iload_n 3, 1) := by decide +kernel
theorem dX11_report_44 : decode cX11_report 44 = .ok (.i2l, 1) := by decide +kernel
theorem dX11_report_45 : decode cX11_report 45 = .ok (.ldiv, 1) := by decide +kernel
theorem dX11_report_46 : decode cX11_report 46 = .ok (.lstore 7, 2) := by decide +kernel
theorem dX11_report_48 : decode cX11_report 48 = .ok (.iconst 0, 1) := by decide +kernel
theorem dX11_report_49 : decode cX11_report 49 = .ok (.istore 9, 2) := by decide +kernel
theorem dX11_report_51 : decode cX11_report 51 = .ok (.aload_n 0, 1) := by decide +kernel
theorem dX11_report_52 : decode cX11_report 52 = .ok (.getfield 54, 3) := by decide +kernel
theorem dX11_report_55 : decode cX11_report 55 = .ok (.invokevirtual 187, 3) := by decide +kernel
theorem dX11_report_58 : decode cX11_report 58 = .ok (.iconst 0, 1) := by decide +kernel
theorem dX11_report_59 : decode cX11_report 59 = .ok (.istore 10, 2) := by decide +kernel
theorem dX11_report_61 : decode cX11_report 61 = .ok (.iload 10, 2) := by decide +kernel
theorem dX11_report_63 : decode cX11_report 63 = .ok (.aload_n 0, 1) := by decide +kernel
theorem dX11_report_64 : decode cX11_report 64 = .ok (.getfield 23, 3) := by decide +kernel
theorem dX11_report_67 : decode cX11_report 67 = .ok (.getfield 42, 3) := by decide +kernel
theorem dX11_report_70 : decode cX11_report 70 = .ok (.if_icmp .ge 59, 3) := by decide +kernel
theorem dX11_report_73 : decode cX11_report 73 = .ok (.iload 4, 2) := by decide +kernel
theorem dX11_report_75 : decode cX11_report 75 = .ok (.ifCond .eq 15, 3) := by decide +kernel
theorem dX11_report_78 : decode cX11_report 78 = .ok (.aload 6, 2) := by decide +kernel
theorem dX11_report_80 : decode cX11_report 80 = .ok (.iload 10, 2) := by decide +kernel
theorem dX11_report_82 : decode cX11_report 82 = .ok (.invokeinterface 121 2, 5) := by decide +kernel
theorem dX11_report_87 : decode cX11_report 87 = .ok (.goto 12, 3) := by decide +kernel
theorem dX11_report_90 : decode cX11_report 90 = .ok (.aload 6, 2) := by decide +kernel
theorem dX11_report_92 : decode cX11_report 92 = .ok (.iload 10, 2) := by decide +kernel
theorem dX11_report_94 : decode cX11_report 94 = .ok (.invokeinterface 124 2, 5) := by decide +kernel
theorem dX11_report_99 : decode cX11_report 99 = .ok (.lstore 11, 2) := by decide +kernel
theorem dX11_report_101 : decode cX11_report 101 = .ok (.lload 11, 2) := by decide +kernel
theorem dX11_report_103 : decode cX11_report 103 = .ok (.lload 7, 2) := by decide +kernel
theorem dX11_report_105 : decode cX11_report 105 = .ok (.lcmp, 1) := by decide +kernel
theorem dX11_report_106 : decode cX11_report 106 = .ok (.ifCond .le 17, 3) := by decide +kernel
theorem dX11_report_109 : decode cX11_report 109 = .ok (.iinc 9 1, 3) := by decide +kernel
theorem dX11_report_112 : decode cX11_report 112 = .ok (.aload_n 0, 1) := by decide +kernel
theorem dX11_report_113 : decode cX11_report 113 = .ok (.getfield 54, 3) := by decide +kernel
theorem dX11_report_116 : decode cX11_report 116 = .ok (.iload 10, 2) := by decide +kernel
theorem dX11_report_118 : decode cX11_report 118 = .ok (.lload 11, 2) := by decide +kernel
theorem dX11_report_120 : decode cX11_report 120 = .ok (.invokevirtual 190, 3) := by decide +kernel
theorem dX11_report_123 : decode cX11_report 123 = .ok (.iinc 10 1, 3) := by decide +kernel
theorem dX11_report_126 : decode cX11_report 126 = .ok (.goto (-65), 3) := by decide +kernel
theorem dX11_report_129 : decode cX11_report 129 = .ok (.iload 9, 2) := by decide +kernel
theorem dX11_report_131 : decode cX11_report 131 = .ok (.ireturn, 1) := by decide +kernel
theorem dX11_reported_0 : decode cX11_reported 0 = .ok (.aload_n 0, 1) := by decide +kernel
theorem dX11_reported_1 : decode cX11_reported 1 = .ok (.getfield 54, 3) := by decide +kernel
theorem dX11_reported_4 : decode cX11_reported 4 = .ok (.iload_n 1, 1) := by decide +kernel
theorem dX11_reported_5 : decode cX11_reported 5 = .ok (.iload_n 2, 1) := by decide +kernel
theorem dX11_reported_6 : decode cX11_reported 6 = .ok (.invokevirtual 194, 3) := by decide +kernel
theorem dX11_reported_9 : decode cX11_reported 9 = .ok (.lreturn, 1) := by decide +kernel
theorem dX11_overcounts_0 : decode cX11_overcounts 0 = .ok (.aload_n 0, 1) := by decide +kernel
theorem dX11_overcounts_1 : decode cX11_overcounts 1 = .ok (.iload_n 1, 1) := by decide +kernel
theorem dX11_overcounts_2 : decode cX11_overcounts 2 = .ok (.invokevirtual 85, 3) := by decide +kernel
theorem dX11_overcounts_5 : decode cX11_overcounts 5 = .ok (.astore_n 3, 1) := by decide +kernel
theorem dX11_overcounts_6 : decode cX11_overcounts 6 = .ok (.aload_n 3, 1) := by decide +kernel
theorem dX11_overcounts_7 : decode cX11_overcounts 7 = .ok (.ifnull 24, 3) := by decide +kernel
theorem dX11_overcounts_10 : decode cX11_overcounts 10 = .ok (.aload_n 0, 1) := by decide +kernel
theorem dX11_overcounts_11 : decode cX11_overcounts 11 = .ok (.getfield 23, 3) := by decide +kernel
theorem dX11_overcounts_14 : decode cX11_overcounts 14 = .ok (.iload_n 2, 1) := by decide +kernel
theorem dX11_overcounts_15 : decode cX11_overcounts 15 = .ok (.invokevirtual 79, 3) := by decide +kernel
theorem dX11_overcounts_18 : decode cX11_overcounts 18 = .ok (.ifCond .eq 13, 3) := by decide +kernel
theorem dX11_overcounts_21 : decode cX11_overcounts 21 = .ok (.aload_n 3, 1) := by decide +kernel
theorem dX11_overcounts_22 : decode cX11_overcounts 22 = .ok (.getfield 127, 3) := by decide +kernel
theorem dX11_overcounts_25 : decode cX11_overcounts 25 = .ok (.getfield 131, 3) := by decide +kernel
theorem dX11_overcounts_28 : decode cX11_overcounts 28 = .ok (.ifCond .eq 7, 3) := by decide +kernel
theorem dX11_overcounts_31 : decode cX11_overcounts 31 = .ok (.ldc2_w 89, 3) := by decide +kernel
theorem dX11_overcounts_34 : decode cX11_overcounts 34 = .ok (.lreturn, 1) := by decide +kernel
theorem dX11_overcounts_35 : decode cX11_overcounts 35 = .ok (.aload_n 0, 1) := by decide +kernel
theorem dX11_overcounts_36 : decode cX11_overcounts 36 = .ok (.getfield 23, 3) := by decide +kernel
theorem dX11_overcounts_39 : decode cX11_overcounts 39 = .ok (.getfield 42, 3) := by decide +kernel
theorem dX11_overcounts_42 : decode cX11_overcounts 42 = .ok (.sipush 131, 3) := by decide +kernel
theorem dX11_overcounts_45 : decode cX11_overcounts 45 = .ok (.if_icmp .gt 14, 3) := by decide +kernel
theorem dX11_overcounts_48 : decode cX11_overcounts 48 = .ok (.aload_n 3, 1) := by decide +kernel
theorem dX11_overcounts_49 : decode cX11_overcounts 49 = .ok (.getfield 91, 3) := by decide +kernel
theorem dX11_overcounts_52 : decode cX11_overcounts 52 = .ok (.ldc2_w 195, 3) := by decide +kernel
theorem dX11_overcounts_55 : decode cX11_overcounts 55 = .ok (.lcmp, 1) := by decide +kernel
theorem dX11_overcounts_56 : decode cX11_overcounts 56 = .ok (.ifCond .le 7, 3) := by decide +kernel
theorem dX11_overcounts_59 : decode cX11_overcounts 59 = .ok (.ldc2_w 89, 3) := by decide +kernel
theorem dX11_overcounts_62 : decode cX11_overcounts 62 = .ok (.lreturn, 1) := by decide +kernel
theorem dX11_overcounts_63 : decode cX11_overcounts 63 = .ok (.aload_n 3, 1) := by decide +kernel
theorem dX11_overcounts_64 : decode cX11_overcounts 64 = .ok (.getfield 91, 3) := by decide +kernel
theorem dX11_overcounts_67 : decode cX11_overcounts 67 = .ok (.aload_n 3, 1) := by decide +kernel
theorem dX11_overcounts_68 : decode cX11_overcounts 68 = .ok (.getfield 127, 3) := by decide +kernel
theorem dX11_overcounts_71 : decode cX11_overcounts 71 = .ok (.iload_n 2, 1) := by decide +kernel
theorem dX11_overcounts_72 : decode cX11_overcounts 72 = .ok (.invokevirtual 137, 3) := by decide +kernel
theorem dX11_overcounts_75 : decode cX11_overcounts 75 = .ok (.lsub, 1) := by decide +kernel
theorem dX11_overcounts_76 : decode cX11_overcounts 76 = .ok (.aload_n 0, 1) := by decide +kernel
theorem dX11_overcounts_77 : decode cX11_overcounts 77 = .ok (.getfield 23, 3) := by decide +kernel
theorem dX11_overcounts_80 : decode cX11_overcounts 80 = .ok (.invokevirtual 197, 3) := by decide +kernel
theorem dX11_overcounts_83 : decode cX11_overcounts 83 = .ok (.lmul, 1) := by decide +kernel
theorem dX11_overcounts_84 : decode cX11_overcounts 84 = .ok (.lreturn, 1) := by decide +kernel
theorem dX11_audit_0 : decode cX11_audit 0 = .ok (.aload_n 0, 1) := by decide +kernel
theorem dX11_audit_1 : decode cX11_audit 1 = .ok (.iload_n 1, 1) := by decide +kernel
theorem dX11_audit_2 : decode cX11_audit 2 = .ok (.invokevirtual 85, 3) := by decide +kernel
theorem dX11_audit_5 : decode cX11_audit 5 = .ok (.astore_n 2, 1) := by decide +kernel
theorem dX11_audit_6 : decode cX11_audit 6 = .ok (.aload_n 2, 1) := by decide +kernel
theorem dX11_audit_7 : decode cX11_audit 7 = .ok (.ifnull 13, 3) := by decide +kernel
theorem dX11_audit_10 : decode cX11_audit 10 = .ok (.aload_n 2, 1) := by decide +kernel
theorem dX11_audit_11 : decode cX11_audit 11 = .ok (.getfield 127, 3) := by decide +kernel
theorem dX11_audit_14 : decode cX11_audit 14 = .ok (.getfield 131, 3) := by decide +kernel
theorem dX11_audit_17 : decode cX11_audit 17 = .ok (.ifCond .eq 5, 3) := by decide +kernel
theorem dX11_audit_20 : decode cX11_audit 20 = .ok (.iconst (-1), 1) := by decide +kernel
theorem dX11_audit_21 : decode cX11_audit 21 = .ok (.ireturn, 1) := by decide +kernel
theorem dX11_audit_22 : decode cX11_audit 22 = .ok (.aload_n 2, 1) := by decide +kernel
theorem dX11_audit_23 : decode cX11_audit 23 = .ok (.invokevirtual 200, 3) := by decide +kernel
theorem dX11_audit_26 : decode cX11_audit 26 = .ok (.ireturn, 1) := by decide +kernel
theorem dX11_streamAt_0 : decode cX11_streamAt 0 = .ok (.iload_n 1, 1) := by decide +kernel
theorem dX11_streamAt_1 : decode cX11_streamAt 1 = .ok (.ifCond .lt 17, 3) := by decide +kernel
theorem dX11_streamAt_4 : decode cX11_streamAt 4 = .ok (.iload_n 1, 1) := by decide +kernel
theorem dX11_streamAt_5 : decode cX11_streamAt 5 = .ok (.iconst 4, 1) := by decide +kernel
theorem dX11_streamAt_6 : decode cX11_streamAt 6 = .ok (.if_icmp .ge 12, 3) := by decide +kernel
theorem dX11_streamAt_9 : decode cX11_streamAt 9 = .ok (.aload_n 0, 1) := by decide +kernel
theorem dX11_streamAt_10 : decode cX11_streamAt 10 = .ok (.getfield 33, 3) := by decide +kernel
theorem dX11_streamAt_13 : decode cX11_streamAt 13 = .ok (.iload_n 1, 1) := by decide +kernel
theorem dX11_streamAt_14 : decode cX11_streamAt 14 = .ok (.aaload, 1) := by decide +kernel
theorem dX11_streamAt_15 : decode cX11_streamAt 15 = .ok (.goto 4, 3) := by decide +kernel
theorem dX11_streamAt_18 : decode cX11_streamAt 18 = .ok (.aconst_null, 1) := by decide +kernel
theorem dX11_streamAt_19 : decode cX11_streamAt 19 = .ok (.areturn, 1) := by decide +kernel
theorem dX11_sketchAt_0 : decode cX11_sketchAt 0 = .ok (.aload_n 0, 1) := by decide +kernel
theorem dX11_sketchAt_1 : decode cX11_sketchAt 1 = .ok (.iload_n 1, 1) := by decide +kernel
theorem dX11_sketchAt_2 : decode cX11_sketchAt 2 = .ok (.invokevirtual 85, 3) := by decide +kernel
theorem dX11_sketchAt_5 : decode cX11_sketchAt 5 = .ok (.astore_n 3, 1) := by decide +kernel
theorem dX11_sketchAt_6 : decode cX11_sketchAt 6 = .ok (.aload_n 3, 1) := by decide +kernel
theorem dX11_sketchAt_7 : decode cX11_sketchAt 7 = .ok (.ifnull 12, 3) := by decide +kernel
theorem dX11_sketchAt_10 : decode cX11_sketchAt 10 = .ok (.iload_n 2, 1) := by decide +kernel
theorem dX11_sketchAt_11 : decode cX11_sketchAt 11 = .ok (.ifCond .lt 8, 3) := by decide +kernel
theorem dX11_sketchAt_14 : decode cX11_sketchAt 14 = .ok (.iload_n 2, 1) := by decide +kernel
theorem dX11_sketchAt_15 : decode cX11_sketchAt 15 = .ok (.iconst 5, 1) := by decide +kernel
theorem dX11_sketchAt_16 : decode cX11_sketchAt 16 = .ok (.if_icmp .lt 5, 3) := by decide +kernel
theorem dX11_sketchAt_19 : decode cX11_sketchAt 19 = .ok (.aconst_null, 1) := by decide +kernel
theorem dX11_sketchAt_20 : decode cX11_sketchAt 20 = .ok (.areturn, 1) := by decide +kernel
theorem dX11_sketchAt_21 : decode cX11_sketchAt 21 = .ok (.aload_n 3, 1) := by decide +kernel
theorem dX11_sketchAt_22 : decode cX11_sketchAt 22 = .ok (.getfield 204, 3) := by decide +kernel
theorem dX11_sketchAt_25 : decode cX11_sketchAt 25 = .ok (.iload_n 2, 1) := by decide +kernel
theorem dX11_sketchAt_26 : decode cX11_sketchAt 26 = .ok (.aaload, 1) := by decide +kernel
theorem dX11_sketchAt_27 : decode cX11_sketchAt 27 = .ok (.areturn, 1) := by decide +kernel
theorem dX11_allStreamsEmpty_0 : decode cX11_allStreamsEmpty 0 = .ok (.iconst 0, 1) := by decide +kernel
theorem dX11_allStreamsEmpty_1 : decode cX11_allStreamsEmpty 1 = .ok (.istore_n 1, 1) := by decide +kernel
theorem dX11_allStreamsEmpty_2 : decode cX11_allStreamsEmpty 2 = .ok (.iload_n 1, 1) := by decide +kernel
theorem dX11_allStreamsEmpty_3 : decode cX11_allStreamsEmpty 3 = .ok (.iconst 4, 1) := by decide +kernel
theorem dX11_allStreamsEmpty_4 : decode cX11_allStreamsEmpty 4 = .ok (.if_icmp .ge 25, 3) := by decide +kernel
theorem dX11_allStreamsEmpty_7 : decode cX11_allStreamsEmpty 7 = .ok (.aload_n 0, 1) := by decide +kernel
theorem dX11_allStreamsEmpty_8 : decode cX11_allStreamsEmpty 8 = .ok (.getfield 33, 3) := by decide +kernel
theorem dX11_allStreamsEmpty_11 : decode cX11_allStreamsEmpty 11 = .ok (.iload_n 1, 1) := by decide +kernel
theorem dX11_allStreamsEmpty_12 : decode cX11_allStreamsEmpty 12 = .ok (.aaload, 1) := by decide +kernel
theorem dX11_allStreamsEmpty_13 : decode cX11_allStreamsEmpty 13 = .ok (.getfield 91, 3) := by decide +kernel
theorem dX11_allStreamsEmpty_16 : decode cX11_allStreamsEmpty 16 = .ok (.lconst 0, 1) := by decide +kernel
theorem dX11_allStreamsEmpty_17 : decode cX11_allStreamsEmpty 17 = .ok (.lcmp, 1) := by decide +kernel
theorem dX11_allStreamsEmpty_18 : decode cX11_allStreamsEmpty 18 = .ok (.ifCond .le 5, 3) := by decide +kernel
theorem dX11_allStreamsEmpty_21 : decode cX11_allStreamsEmpty 21 = .ok (.iconst 0, 1) := by decide +kernel
theorem dX11_allStreamsEmpty_22 : decode cX11_allStreamsEmpty 22 = .ok (.ireturn, 1) := by decide +kernel
theorem dX11_allStreamsEmpty_23 : decode cX11_allStreamsEmpty 23 = .ok (.iinc 1 1, 3) := by decide +kernel
theorem dX11_allStreamsEmpty_26 : decode cX11_allStreamsEmpty 26 = .ok (.goto (-24), 3) := by decide +kernel
theorem dX11_allStreamsEmpty_29 : decode cX11_allStreamsEmpty 29 = .ok (.iconst 1, 1) := by decide +kernel
theorem dX11_allStreamsEmpty_30 : decode cX11_allStreamsEmpty 30 = .ok (.ireturn, 1) := by decide +kernel
theorem dX11_within_0 : decode cX11_within 0 = .ok (.iload_n 1, 1) := by decide +kernel
theorem dX11_within_1 : decode cX11_within 1 = .ok (.iload_n 2, 1) := by decide +kernel
theorem dX11_within_2 : decode cX11_within 2 = .ok (.iload_n 0, 1) := by decide +kernel
theorem dX11_within_3 : decode cX11_within 3 = .ok (.invokestatic 45, 3) := by decide +kernel
theorem dX11_within_6 : decode cX11_within 6 = .ok (.invokestatic 208, 3) := by decide +kernel
theorem dX11_within_9 : decode cX11_within 9 = .ok (.ireturn, 1) := by decide +kernel
theorem dX11_leastPrimeFrom_0 : decode cX11_leastPrimeFrom 0 = .ok (.iload_n 0, 1) := by decide +kernel
theorem dX11_leastPrimeFrom_1 : decode cX11_leastPrimeFrom 1 = .ok (.istore_n 1, 1) := by decide +kernel
theorem dX11_leastPrimeFrom_2 : decode cX11_leastPrimeFrom 2 = .ok (.iload_n 1, 1) := by decide +kernel
theorem dX11_leastPrimeFrom_3 : decode cX11_leastPrimeFrom 3 = .ok (.ldc 11, 2) := by decide +kernel
theorem dX11_leastPrimeFrom_5 : decode cX11_leastPrimeFrom 5 = .ok (.if_icmp .ge 18, 3) := by decide +kernel
theorem dX11_leastPrimeFrom_8 : decode cX11_leastPrimeFrom 8 = .ok (.iload_n 1, 1) := by decide +kernel
theorem dX11_leastPrimeFrom_9 : decode cX11_leastPrimeFrom 9 = .ok (.invokestatic 211, 3) := by decide +kernel
theorem dX11_leastPrimeFrom_12 : decode cX11_leastPrimeFrom 12 = .ok (.ifCond .eq 5, 3) := by decide +kernel
theorem dX11_leastPrimeFrom_15 : decode cX11_leastPrimeFrom 15 = .ok (.iload_n 1, 1) := by decide +kernel
theorem dX11_leastPrimeFrom_16 : decode cX11_leastPrimeFrom 16 = .ok (.ireturn, 1) := by decide +kernel
theorem dX11_leastPrimeFrom_17 : decode cX11_leastPrimeFrom 17 = .ok (.iinc 1 1, 3) := by decide +kernel
theorem dX11_leastPrimeFrom_20 : decode cX11_leastPrimeFrom 20 = .ok (.goto (-18), 3) := by decide +kernel
theorem dX11_leastPrimeFrom_23 : decode cX11_leastPrimeFrom 23 = .ok (.ldc 11, 2) := by decide +kernel
theorem dX11_leastPrimeFrom_25 : decode cX11_leastPrimeFrom 25 = .ok (.ireturn, 1) := by decide +kernel
theorem dX11_isPrime_0 : decode cX11_isPrime 0 = .ok (.iconst 2, 1) := by decide +kernel
theorem dX11_isPrime_1 : decode cX11_isPrime 1 = .ok (.istore_n 1, 1) := by decide +kernel
theorem dX11_isPrime_2 : decode cX11_isPrime 2 = .ok (.iload_n 1, 1) := by decide +kernel
theorem dX11_isPrime_3 : decode cX11_isPrime 3 = .ok (.iload_n 1, 1) := by decide +kernel
theorem dX11_isPrime_4 : decode cX11_isPrime 4 = .ok (.imul, 1) := by decide +kernel
theorem dX11_isPrime_5 : decode cX11_isPrime 5 = .ok (.iload_n 0, 1) := by decide +kernel
theorem dX11_isPrime_6 : decode cX11_isPrime 6 = .ok (.if_icmp .gt 17, 3) := by decide +kernel
theorem dX11_isPrime_9 : decode cX11_isPrime 9 = .ok (.iload_n 0, 1) := by decide +kernel
theorem dX11_isPrime_10 : decode cX11_isPrime 10 = .ok (.iload_n 1, 1) := by decide +kernel
theorem dX11_isPrime_11 : decode cX11_isPrime 11 = .ok (.irem, 1) := by decide +kernel
theorem dX11_isPrime_12 : decode cX11_isPrime 12 = .ok (.ifCond .ne 5, 3) := by decide +kernel
theorem dX11_isPrime_15 : decode cX11_isPrime 15 = .ok (.iconst 0, 1) := by decide +kernel
theorem dX11_isPrime_16 : decode cX11_isPrime 16 = .ok (.ireturn, 1) := by decide +kernel
theorem dX11_isPrime_17 : decode cX11_isPrime 17 = .ok (.iinc 1 1, 3) := by decide +kernel
theorem dX11_isPrime_20 : decode cX11_isPrime 20 = .ok (.goto (-18), 3) := by decide +kernel
theorem dX11_isPrime_23 : decode cX11_isPrime 23 = .ok (.iload_n 0, 1) := by decide +kernel
theorem dX11_isPrime_24 : decode cX11_isPrime 24 = .ok (.iconst 2, 1) := by decide +kernel
theorem dX11_isPrime_25 : decode cX11_isPrime 25 = .ok (.if_icmp .lt 7, 3) := by decide +kernel
theorem dX11_isPrime_28 : decode cX11_isPrime 28 = .ok (.iconst 1, 1) := by decide +kernel
theorem dX11_isPrime_29 : decode cX11_isPrime 29 = .ok (.goto 4, 3) := by decide +kernel
theorem dX11_isPrime_32 : decode cX11_isPrime 32 = .ok (.iconst 0, 1) := by decide +kernel
theorem dX11_isPrime_33 : decode cX11_isPrime 33 = .ok (.ireturn, 1) := by decide +kernel
theorem dJ9_max_7cf53_0 : decode cJ9_max_7cf53 0 = .ok (.iload_n 0, 1) := by decide +kernel
theorem dJ9_max_7cf53_1 : decode cJ9_max_7cf53 1 = .ok (.iload_n 1, 1) := by decide +kernel
theorem dJ9_max_7cf53_2 : decode cJ9_max_7cf53 2 = .ok (.if_icmp .lt 7, 3) := by decide +kernel
theorem dJ9_max_7cf53_5 : decode cJ9_max_7cf53 5 = .ok (.iload_n 0, 1) := by decide +kernel
theorem dJ9_max_7cf53_6 : decode cJ9_max_7cf53 6 = .ok (.goto 4, 3) := by decide +kernel
theorem dJ9_max_7cf53_9 : decode cJ9_max_7cf53 9 = .ok (.iload_n 1, 1) := by decide +kernel
theorem dJ9_max_7cf53_10 : decode cJ9_max_7cf53 10 = .ok (.ireturn, 1) := by decide +kernel
theorem dJ9_max_f86c9_0 : decode cJ9_max_f86c9 0 = .ok (.lload_n 0, 1) := by decide +kernel
theorem dJ9_max_f86c9_1 : decode cJ9_max_f86c9 1 = .ok (.lload_n 2, 1) := by decide +kernel
theorem dJ9_max_f86c9_2 : decode cJ9_max_f86c9 2 = .ok (.lcmp, 1) := by decide +kernel
theorem dJ9_max_f86c9_3 : decode cJ9_max_f86c9 3 = .ok (.ifCond .lt 7, 3) := by decide +kernel
theorem dJ9_max_f86c9_6 : decode cJ9_max_f86c9 6 = .ok (.lload_n 0, 1) := by decide +kernel
theorem dJ9_max_f86c9_7 : decode cJ9_max_f86c9 7 = .ok (.goto 4, 3) := by decide +kernel
theorem dJ9_max_f86c9_10 : decode cJ9_max_f86c9 10 = .ok (.lload_n 2, 1) := by decide +kernel
theorem dJ9_max_f86c9_11 : decode cJ9_max_f86c9 11 = .ok (.lreturn, 1) := by decide +kernel
theorem dJ9_min_7cf53_0 : decode cJ9_min_7cf53 0 = .ok (.iload_n 0, 1) := by decide +kernel
theorem dJ9_min_7cf53_1 : decode cJ9_min_7cf53 1 = .ok (.iload_n 1, 1) := by decide +kernel
theorem dJ9_min_7cf53_2 : decode cJ9_min_7cf53 2 = .ok (.if_icmp .gt 7, 3) := by decide +kernel
theorem dJ9_min_7cf53_5 : decode cJ9_min_7cf53 5 = .ok (.iload_n 0, 1) := by decide +kernel
theorem dJ9_min_7cf53_6 : decode cJ9_min_7cf53 6 = .ok (.goto 4, 3) := by decide +kernel
theorem dJ9_min_7cf53_9 : decode cJ9_min_7cf53 9 = .ok (.iload_n 1, 1) := by decide +kernel
theorem dJ9_min_7cf53_10 : decode cJ9_min_7cf53 10 = .ok (.ireturn, 1) := by decide +kernel
theorem dJ9_min_f86c9_0 : decode cJ9_min_f86c9 0 = .ok (.lload_n 0, 1) := by decide +kernel
theorem dJ9_min_f86c9_1 : decode cJ9_min_f86c9 1 = .ok (.lload_n 2, 1) := by decide +kernel
theorem dJ9_min_f86c9_2 : decode cJ9_min_f86c9 2 = .ok (.lcmp, 1) := by decide +kernel
theorem dJ9_min_f86c9_3 : decode cJ9_min_f86c9 3 = .ok (.ifCond .gt 7, 3) := by decide +kernel
theorem dJ9_min_f86c9_6 : decode cJ9_min_f86c9 6 = .ok (.lload_n 0, 1) := by decide +kernel
theorem dJ9_min_f86c9_7 : decode cJ9_min_f86c9 7 = .ok (.goto 4, 3) := by decide +kernel
theorem dJ9_min_f86c9_10 : decode cJ9_min_f86c9 10 = .ok (.lload_n 2, 1) := by decide +kernel
theorem dJ9_min_f86c9_11 : decode cJ9_min_f86c9 11 = .ok (.lreturn, 1) := by decide +kernel
theorem dJ7_fill_d0a16_0 : decode cJ7_fill_d0a16 0 = .ok (.iconst 0, 1) := by decide +kernel
theorem dJ7_fill_d0a16_1 : decode cJ7_fill_d0a16 1 = .ok (.istore_n 3, 1) := by decide +kernel
theorem dJ7_fill_d0a16_2 : decode cJ7_fill_d0a16 2 = .ok (.aload_n 0, 1) := by decide +kernel
theorem dJ7_fill_d0a16_3 : decode cJ7_fill_d0a16 3 = .ok (.arraylength, 1) := by decide +kernel
theorem dJ7_fill_d0a16_4 : decode cJ7_fill_d0a16 4 = .ok (.istore 4, 2) := by decide +kernel
theorem dJ7_fill_d0a16_6 : decode cJ7_fill_d0a16 6 = .ok (.iload_n 3, 1) := by decide +kernel
theorem dJ7_fill_d0a16_7 : decode cJ7_fill_d0a16 7 = .ok (.iload 4, 2) := by decide +kernel
theorem dJ7_fill_d0a16_9 : decode cJ7_fill_d0a16 9 = .ok (.if_icmp .ge 13, 3) := by decide +kernel
theorem dJ7_fill_d0a16_12 : decode cJ7_fill_d0a16 12 = .ok (.aload_n 0, 1) := by decide +kernel
theorem dJ7_fill_d0a16_13 : decode cJ7_fill_d0a16 13 = .ok (.iload_n 3, 1) := by decide +kernel
theorem dJ7_fill_d0a16_14 : decode cJ7_fill_d0a16 14 = .ok (.lload_n 1, 1) := by decide +kernel
theorem dJ7_fill_d0a16_15 : decode cJ7_fill_d0a16 15 = .ok (.lastore, 1) := by decide +kernel
theorem dJ7_fill_d0a16_16 : decode cJ7_fill_d0a16 16 = .ok (.iinc 3 1, 3) := by decide +kernel
theorem dJ7_fill_d0a16_19 : decode cJ7_fill_d0a16 19 = .ok (.goto (-13), 3) := by decide +kernel
theorem dJ7_fill_d0a16_22 : decode cJ7_fill_d0a16 22 = .ok (.return_, 1) := by decide +kernel
