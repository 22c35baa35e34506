theorem dX0_init_0 : decode cX0_init 0 = .ok (.aload_n 0, 1) := by decide +kernel
theorem dX0_init_1 : decode cX0_init 1 = .ok (.invokespecial 5, 3) := by decide +kernel
theorem dX0_init_4 : decode cX0_init 4 = .ok (.aload_n 0, 1) := by decide +kernel
theorem dX0_init_5 : decode cX0_init 5 = .ok (.bipush 117, 2) := by decide +kernel
theorem dX0_init_7 : decode cX0_init 7 = .ok (.newarray .char, 2) := by decide +kernel
theorem dX0_init_9 : decode cX0_init 9 = .ok (.putfield 11, 3) := by decide +kernel
theorem dX0_init_12 : decode cX0_init 12 = .ok (.aload_n 0, 1) := by decide +kernel
theorem dX0_init_13 : decode cX0_init 13 = .ok (.iconst 0, 1) := by decide +kernel
theorem dX0_init_14 : decode cX0_init 14 = .ok (.putfield 15, 3) := by decide +kernel
theorem dX0_init_17 : decode cX0_init 17 = .ok (.return_, 1) := by decide +kernel
theorem dX0_size_0 : decode cX0_size 0 = .ok (.aload_n 0, 1) := by decide +kernel
theorem dX0_size_1 : decode cX0_size 1 = .ok (.getfield 15, 3) := by decide +kernel
theorem dX0_size_4 : decode cX0_size 4 = .ok (.ireturn, 1) := by decide +kernel
theorem dX0_signAt_0 : decode cX0_signAt 0 = .ok (.iload_n 1, 1) := by decide +kernel
theorem dX0_signAt_1 : decode cX0_signAt 1 = .ok (.ifCond .lt 20, 3) := by decide +kernel
theorem dX0_signAt_4 : decode cX0_signAt 4 = .ok (.iload_n 1, 1) := by decide +kernel
theorem dX0_signAt_5 : decode cX0_signAt 5 = .ok (.aload_n 0, 1) := by decide +kernel
theorem dX0_signAt_6 : decode cX0_signAt 6 = .ok (.getfield 15, 3) := by decide +kernel
theorem dX0_signAt_9 : decode cX0_signAt 9 = .ok (.if_icmp .ge 12, 3) := by decide +kernel
theorem dX0_signAt_12 : decode cX0_signAt 12 = .ok (.aload_n 0, 1) := by decide +kernel
theorem dX0_signAt_13 : decode cX0_signAt 13 = .ok (.getfield 11, 3) := by decide +kernel
theorem dX0_signAt_16 : decode cX0_signAt 16 = .ok (.iload_n 1, 1) := by decide +kernel
theorem dX0_signAt_17 : decode cX0_signAt 17 = .ok (.caload, 1) := by decide +kernel
theorem dX0_signAt_18 : decode cX0_signAt 18 = .ok (.goto 4, 3) := by decide +kernel
theorem dX0_signAt_21 : decode cX0_signAt 21 = .ok (.iconst 0, 1) := by decide +kernel
theorem dX0_signAt_22 : decode cX0_signAt 22 = .ok (.ireturn, 1) := by decide +kernel
theorem dX0_write_0 : decode cX0_write 0 = .ok (.aload_n 0, 1) := by decide +kernel
theorem dX0_write_1 : decode cX0_write 1 = .ok (.iconst 0, 1) := by decide +kernel
theorem dX0_write_2 : decode cX0_write 2 = .ok (.putfield 15, 3) := by decide +kernel
theorem dX0_write_5 : decode cX0_write 5 = .ok (.bipush 8, 2) := by decide +kernel
theorem dX0_write_7 : decode cX0_write 7 = .ok (.istore_n 2, 1) := by decide +kernel
theorem dX0_write_8 : decode cX0_write 8 = .ok (.iload_n 2, 1) := by decide +kernel
theorem dX0_write_9 : decode cX0_write 9 = .ok (.ifCond .lt 23, 3) := by decide +kernel
theorem dX0_write_12 : decode cX0_write 12 = .ok (.aload_n 1, 1) := by decide +kernel
theorem dX0_write_13 : decode cX0_write 13 = .ok (.iload_n 2, 1) := by decide +kernel
theorem dX0_write_14 : decode cX0_write 14 = .ok (.iaload, 1) := by decide +kernel
theorem dX0_write_15 : decode cX0_write 15 = .ok (.ifCond .eq 11, 3) := by decide +kernel
theorem dX0_write_18 : decode cX0_write 18 = .ok (.aload_n 0, 1) := by decide +kernel
theorem dX0_write_19 : decode cX0_write 19 = .ok (.aload_n 1, 1) := by decide +kernel
theorem dX0_write_20 : decode cX0_write 20 = .ok (.iload_n 2, 1) := by decide +kernel
theorem dX0_write_21 : decode cX0_write 21 = .ok (.iaload, 1) := by decide +kernel
theorem dX0_write_22 : decode cX0_write 22 = .ok (.iload_n 2, 1) := by decide +kernel
theorem dX0_write_23 : decode cX0_write 23 = .ok (.invokevirtual 19, 3) := by decide +kernel
theorem dX0_write_26 : decode cX0_write 26 = .ok (.iinc 2 (-1), 3) := by decide +kernel
theorem dX0_write_29 : decode cX0_write 29 = .ok (.goto (-21), 3) := by decide +kernel
theorem dX0_write_32 : decode cX0_write 32 = .ok (.aload_n 0, 1) := by decide +kernel
theorem dX0_write_33 : decode cX0_write 33 = .ok (.getfield 15, 3) := by decide +kernel
theorem dX0_write_36 : decode cX0_write 36 = .ok (.ifCond .ne 9, 3) := by decide +kernel
theorem dX0_write_39 : decode cX0_write 39 = .ok (.aload_n 0, 1) := by decide +kernel
theorem dX0_write_40 : decode cX0_write 40 = .ok (.bipush 48, 2) := by decide +kernel
theorem dX0_write_42 : decode cX0_write 42 = .ok (.invokevirtual 23, 3) := by decide +kernel
theorem dX0_write_45 : decode cX0_write 45 = .ok (.return_, 1) := by decide +kernel
theorem dX0_putPart_0 : decode cX0_putPart 0 = .ok (.iload_n 1, 1) := by decide +kernel
theorem dX0_putPart_1 : decode cX0_putPart 1 = .ok (.ifCond .ge 12, 3) := by decide +kernel
theorem dX0_putPart_4 : decode cX0_putPart 4 = .ok (.aload_n 0, 1) := by decide +kernel
theorem dX0_putPart_5 : decode cX0_putPart 5 = .ok (.bipush 45, 2) := by decide +kernel
theorem dX0_putPart_7 : decode cX0_putPart 7 = .ok (.invokevirtual 23, 3) := by decide +kernel
theorem dX0_putPart_10 : decode cX0_putPart 10 = .ok (.goto 16, 3) := by decide +kernel
theorem dX0_putPart_13 : decode cX0_putPart 13 = .ok (.aload_n 0, 1) := by decide +kernel
theorem dX0_putPart_14 : decode cX0_putPart 14 = .ok (.getfield 15, 3) := by decide +kernel
theorem dX0_putPart_17 : decode cX0_putPart 17 = .ok (.ifCond .le 9, 3) := by decide +kernel
theorem dX0_putPart_20 : decode cX0_putPart 20 = .ok (.aload_n 0, 1) := by decide +kernel
theorem dX0_putPart_21 : decode cX0_putPart 21 = .ok (.bipush 43, 2) := by decide +kernel
theorem dX0_putPart_23 : decode cX0_putPart 23 = .ok (.invokevirtual 23, 3) := by decide +kernel
theorem dX0_putPart_26 : decode cX0_putPart 26 = .ok (.iload_n 1, 1) := by decide +kernel
theorem dX0_putPart_27 : decode cX0_putPart 27 = .ok (.invokestatic 27, 3) := by decide +kernel
theorem dX0_putPart_30 : decode cX0_putPart 30 = .ok (.lstore_n 3, 1) := by decide +kernel
theorem dX0_putPart_31 : decode cX0_putPart 31 = .ok (.lload_n 3, 1) := by decide +kernel
theorem dX0_putPart_32 : decode cX0_putPart 32 = .ok (.lconst 1, 1) := by decide +kernel
theorem dX0_putPart_33 : decode cX0_putPart 33 = .ok (.lcmp, 1) := by decide +kernel
theorem dX0_putPart_34 : decode cX0_putPart 34 = .ok (.ifCond .ne 7, 3) := by decide +kernel
theorem dX0_putPart_37 : decode cX0_putPart 37 = .ok (.iload_n 2, 1) := by decide +kernel
theorem dX0_putPart_38 : decode cX0_putPart 38 = .ok (.ifCond .ne 8, 3) := by decide +kernel
theorem dX0_putPart_41 : decode cX0_putPart 41 = .ok (.aload_n 0, 1) := by decide +kernel
theorem dX0_putPart_42 : decode cX0_putPart 42 = .ok (.lload_n 3, 1) := by decide +kernel
theorem dX0_putPart_43 : decode cX0_putPart 43 = .ok (.invokevirtual 33, 3) := by decide +kernel
theorem dX0_putPart_46 : decode cX0_putPart 46 = .ok (.iload_n 2, 1) := by decide +kernel
theorem dX0_putPart_47 : decode cX0_putPart 47 = .ok (.iconst 1, 1) := by decide +kernel
theorem dX0_putPart_48 : decode cX0_putPart 48 = .ok (.if_icmp .lt 9, 3) := by decide +kernel
theorem dX0_putPart_51 : decode cX0_putPart 51 = .ok (.aload_n 0, 1) := by decide +kernel
theorem dX0_putPart_52 : decode cX0_putPart 52 = .ok (.bipush 120, 2) := by decide +kernel
theorem dX0_putPart_54 : decode cX0_putPart 54 = .ok (.invokevirtual 23, 3) := by decide +kernel
theorem dX0_putPart_57 : decode cX0_putPart 57 = .ok (.iload_n 2, 1) := by decide +kernel
theorem dX0_putPart_58 : decode cX0_putPart 58 = .ok (.iconst 2, 1) := by decide +kernel
theorem dX0_putPart_59 : decode cX0_putPart 59 = .ok (.if_icmp .lt 9, 3) := by decide +kernel
theorem dX0_putPart_62 : decode cX0_putPart 62 = .ok (.aload_n 0, 1) := by decide +kernel
theorem dX0_putPart_63 : decode cX0_putPart 63 = .ok (.iload_n 2, 1) := by decide +kernel
theorem dX0_putPart_64 : decode cX0_putPart 64 = .ok (.i2l, 1) := by decide +kernel
theorem dX0_putPart_65 : decode cX0_putPart 65 = .ok (.invokevirtual 33, 3) := by decide +kernel
theorem dX0_putPart_68 : decode cX0_putPart 68 = .ok (.return_, 1) := by decide +kernel
theorem dX0_putDigits_0 : decode cX0_putDigits 0 = .ok (.ldc2_w 37, 3) := by decide +kernel
theorem dX0_putDigits_3 : decode cX0_putDigits 3 = .ok (.lstore_n 3, 1) := by decide +kernel
theorem dX0_putDigits_4 : decode cX0_putDigits 4 = .ok (.iconst 0, 1) := by decide +kernel
theorem dX0_putDigits_5 : decode cX0_putDigits 5 = .ok (.istore 5, 2) := by decide +kernel
theorem dX0_putDigits_7 : decode cX0_putDigits 7 = .ok (.iload 5, 2) := by decide +kernel
theorem dX0_putDigits_9 : decode cX0_putDigits 9 = .ok (.bipush 10, 2) := by decide +kernel
theorem dX0_putDigits_11 : decode cX0_putDigits 11 = .ok (.if_icmp .ge 44, 3) := by decide +kernel
theorem dX0_putDigits_14 : decode cX0_putDigits 14 = .ok (.lload_n 3, 1) := by decide +kernel
theorem dX0_putDigits_15 : decode cX0_putDigits 15 = .ok (.lconst 0, 1) := by decide +kernel
theorem dX0_putDigits_16 : decode cX0_putDigits 16 = .ok (.lcmp, 1) := by decide +kernel
theorem dX0_putDigits_17 : decode cX0_putDigits 17 = .ok (.ifCond .le 26, 3) := by decide +kernel
theorem dX0_putDigits_20 : decode cX0_putDigits 20 = .ok (.lload_n 1, 1) := by decide +kernel
theorem dX0_putDigits_21 : decode cX0_putDigits 21 = .ok (.lload_n 3, 1) := by decide +kernel
theorem dX0_putDigits_22 : decode cX0_putDigits 22 = .ok (.lcmp, 1) := by decide +kernel
theorem dX0_putDigits_23 : decode cX0_putDigits 23 = .ok (.ifCond .lt 20, 3) := by decide +kernel
theorem dX0_putDigits_26 : decode cX0_putDigits 26 = .ok (.aload_n 0, 1) := by decide +kernel
theorem dX0_putDigits_27 : decode cX0_putDigits 27 = .ok (.ldc2_w 39, 3) := by decide +kernel
theorem dX0_putDigits_30 : decode cX0_putDigits 30 = .ok (.lload_n 1, 1) := by decide +kernel
theorem dX0_putDigits_31 : decode cX0_putDigits 31 = .ok (.lload_n 3, 1) := by decide +kernel
theorem dX0_putDigits_32 : decode cX0_putDigits 32 = .ok (.ldiv, 1) := by decide +kernel
theorem dX0_putDigits_33 : decode cX0_putDigits 33 = .ok (.ldc2_w 41, 3) := by decide +kernel
theorem dX0_putDigits_36 : decode cX0_putDigits 36 = .ok (.lrem, 1) := by decide +kernel
theorem dX0_putDigits_37 : decode cX0_putDigits 37 = .ok (.ladd, 1) := by decide +kernel
theorem dX0_putDigits_38 : decode cX0_putDigits 38 = .ok (.l2i, 1) := by decide +kernel
theorem dX0_putDigits_39 : decode cX0_putDigits 39 = .ok (.i2c, 1) := by decide +kernel
theorem dX0_putDigits_40 : decode cX0_putDigits 40 = .ok (.invokevirtual 23, 3) := by decide +kernel
theorem dX0_putDigits_43 : decode cX0_putDigits 43 = .ok (.lload_n 3, 1) := by decide +kernel
theorem dX0_putDigits_44 : decode cX0_putDigits 44 = .ok (.ldc2_w 41, 3) := by decide +kernel
theorem dX0_putDigits_47 : decode cX0_putDigits 47 = .ok (.ldiv, 1) := by decide +kernel
theorem dX0_putDigits_48 : decode cX0_putDigits 48 = .ok (.lstore_n 3, 1) := by decide +kernel
theorem dX0_putDigits_49 : decode cX0_putDigits 49 = .ok (.iinc 5 1, 3) := by decide +kernel
theorem dX0_putDigits_52 : decode cX0_putDigits 52 = .ok (.goto (-45), 3) := by decide +kernel
theorem dX0_putDigits_55 : decode cX0_putDigits 55 = .ok (.return_, 1) := by decide +kernel
theorem dX0_put_0 : decode cX0_put 0 = .ok (.aload_n 0, 1) := by decide +kernel
theorem dX0_put_1 : decode cX0_put 1 = .ok (.getfield 15, 3) := by decide +kernel
theorem dX0_put_4 : decode cX0_put 4 = .ok (.bipush 117, 2) := by decide +kernel
theorem dX0_put_6 : decode cX0_put 6 = .ok (.if_icmp .ge 23, 3) := by decide +kernel
theorem dX0_put_9 : decode cX0_put 9 = .ok (.aload_n 0, 1) := by decide +kernel
theorem dX0_put_10 : decode cX0_put 10 = .ok (.getfield 11, 3) := by decide +kernel
theorem dX0_put_13 : decode cX0_put 13 = .ok (.aload_n 0, 1) := by decide +kernel
theorem dX0_put_14 : decode cX0_put 14 = .ok (.getfield 15, 3) := by decide +kernel
theorem dX0_put_17 : decode cX0_put 17 = .ok (.iload_n 1, 1) := by decide +kernel
theorem dX0_put_18 : decode cX0_put 18 = .ok (.castore, 1) := by decide +kernel
theorem dX0_put_19 : decode cX0_put 19 = .ok (.aload_n 0, 1) := by decide +kernel
theorem dX0_put_20 : decode cX0_put 20 = .ok (.dup, 1) := by decide +kernel
theorem dX0_put_21 : decode cX0_put 21 = .ok (.getfield 15, 3) := by decide +kernel
theorem dX0_put_24 : decode cX0_put 24 = .ok (.iconst 1, 1) := by decide +kernel
theorem dX0_put_25 : decode cX0_put 25 = .ok (.iadd, 1) := by decide +kernel
theorem dX0_put_26 : decode cX0_put 26 = .ok (.putfield 15, 3) := by decide +kernel
theorem dX0_put_29 : decode cX0_put 29 = .ok (.return_, 1) := by decide +kernel
theorem dX1_clear_0 : decode cX1_clear 0 = .ok (.iconst 0, 1) := by decide +kernel
theorem dX1_clear_1 : decode cX1_clear 1 = .ok (.istore_n 1, 1) := by decide +kernel
theorem dX1_clear_2 : decode cX1_clear 2 = .ok (.iload_n 1, 1) := by decide +kernel
theorem dX1_clear_3 : decode cX1_clear 3 = .ok (.bipush 9, 2) := by decide +kernel
theorem dX1_clear_5 : decode cX1_clear 5 = .ok (.if_icmp .ge 13, 3) := by decide +kernel
theorem dX1_clear_8 : decode cX1_clear 8 = .ok (.aload_n 0, 1) := by decide +kernel
theorem dX1_clear_9 : decode cX1_clear 9 = .ok (.iload_n 1, 1) := by decide +kernel
theorem dX1_clear_10 : decode cX1_clear 10 = .ok (.iconst 0, 1) := by decide +kernel
theorem dX1_clear_11 : decode cX1_clear 11 = .ok (.iastore, 1) := by decide +kernel
theorem dX1_clear_12 : decode cX1_clear 12 = .ok (.iinc 1 1, 3) := by decide +kernel
theorem dX1_clear_15 : decode cX1_clear 15 = .ok (.goto (-13), 3) := by decide +kernel
theorem dX1_clear_18 : decode cX1_clear 18 = .ok (.return_, 1) := by decide +kernel
theorem dX1_copy_0 : decode cX1_copy 0 = .ok (.iconst 0, 1) := by decide +kernel
theorem dX1_copy_1 : decode cX1_copy 1 = .ok (.istore_n 2, 1) := by decide +kernel
theorem dX1_copy_2 : decode cX1_copy 2 = .ok (.iload_n 2, 1) := by decide +kernel
theorem dX1_copy_3 : decode cX1_copy 3 = .ok (.bipush 9, 2) := by decide +kernel
theorem dX1_copy_5 : decode cX1_copy 5 = .ok (.if_icmp .ge 15, 3) := by decide +kernel
theorem dX1_copy_8 : decode cX1_copy 8 = .ok (.aload_n 1, 1) := by decide +kernel
theorem dX1_copy_9 : decode cX1_copy 9 = .ok (.iload_n 2, 1) := by decide +kernel
theorem dX1_copy_10 : decode cX1_copy 10 = .ok (.aload_n 0, 1) := by decide +kernel
theorem dX1_copy_11 : decode cX1_copy 11 = .ok (.iload_n 2, 1) := by decide +kernel
theorem dX1_copy_12 : decode cX1_copy 12 = .ok (.iaload, 1) := by decide +kernel
theorem dX1_copy_13 : decode cX1_copy 13 = .ok (.iastore, 1) := by decide +kernel
theorem dX1_copy_14 : decode cX1_copy 14 = .ok (.iinc 2 1, 3) := by decide +kernel
theorem dX1_copy_17 : decode cX1_copy 17 = .ok (.goto (-15), 3) := by decide +kernel
theorem dX1_copy_20 : decode cX1_copy 20 = .ok (.return_, 1) := by decide +kernel
theorem dX1_degree_0 : decode cX1_degree 0 = .ok (.bipush 8, 2) := by decide +kernel
theorem dX1_degree_2 : decode cX1_degree 2 = .ok (.istore_n 1, 1) := by decide +kernel
theorem dX1_degree_3 : decode cX1_degree 3 = .ok (.iload_n 1, 1) := by decide +kernel
theorem dX1_degree_4 : decode cX1_degree 4 = .ok (.ifCond .lt 17, 3) := by decide +kernel
theorem dX1_degree_7 : decode cX1_degree 7 = .ok (.aload_n 0, 1) := by decide +kernel
theorem dX1_degree_8 : decode cX1_degree 8 = .ok (.iload_n 1, 1) := by decide +kernel
theorem dX1_degree_9 : decode cX1_degree 9 = .ok (.iaload, 1) := by decide +kernel
theorem dX1_degree_10 : decode cX1_degree 10 = .ok (.ifCond .eq 5, 3) := by decide +kernel
theorem dX1_degree_13 : decode cX1_degree 13 = .ok (.iload_n 1, 1) := by decide +kernel
theorem dX1_degree_14 : decode cX1_degree 14 = .ok (.ireturn, 1) := by decide +kernel
theorem dX1_degree_15 : decode cX1_degree 15 = .ok (.iinc 1 (-1), 3) := by decide +kernel
theorem dX1_degree_18 : decode cX1_degree 18 = .ok (.goto (-15), 3) := by decide +kernel
theorem dX1_degree_21 : decode cX1_degree 21 = .ok (.iconst (-1), 1) := by decide +kernel
theorem dX1_degree_22 : decode cX1_degree 22 = .ok (.ireturn, 1) := by decide +kernel
theorem dX1_plain_0 : decode cX1_plain 0 = .ok (.aload_n 0, 1) := by decide +kernel
theorem dX1_plain_1 : decode cX1_plain 1 = .ok (.invokestatic 9, 3) := by decide +kernel
theorem dX1_plain_4 : decode cX1_plain 4 = .ok (.istore_n 1, 1) := by decide +kernel
theorem dX1_plain_5 : decode cX1_plain 5 = .ok (.iload_n 1, 1) := by decide +kernel
theorem dX1_plain_6 : decode cX1_plain 6 = .ok (.ifCond .lt 14, 3) := by decide +kernel
theorem dX1_plain_9 : decode cX1_plain 9 = .ok (.aload_n 0, 1) := by decide +kernel
theorem dX1_plain_10 : decode cX1_plain 10 = .ok (.iload_n 1, 1) := by decide +kernel
theorem dX1_plain_11 : decode cX1_plain 11 = .ok (.iaload, 1) := by decide +kernel
theorem dX1_plain_12 : decode cX1_plain 12 = .ok (.iconst 1, 1) := by decide +kernel
theorem dX1_plain_13 : decode cX1_plain 13 = .ok (.if_icmp .ne 7, 3) := by decide +kernel
theorem dX1_plain_16 : decode cX1_plain 16 = .ok (.iconst 1, 1) := by decide +kernel
theorem dX1_plain_17 : decode cX1_plain 17 = .ok (.goto 4, 3) := by decide +kernel
theorem dX1_plain_20 : decode cX1_plain 20 = .ok (.iconst 0, 1) := by decide +kernel
theorem dX1_plain_21 : decode cX1_plain 21 = .ok (.ireturn, 1) := by decide +kernel
theorem dX1_parts_0 : decode cX1_parts 0 = .ok (.iconst 0, 1) := by decide +kernel
theorem dX1_parts_1 : decode cX1_parts 1 = .ok (.istore_n 1, 1) := by decide +kernel
theorem dX1_parts_2 : decode cX1_parts 2 = .ok (.iconst 0, 1) := by decide +kernel
theorem dX1_parts_3 : decode cX1_parts 3 = .ok (.istore_n 2, 1) := by decide +kernel
theorem dX1_parts_4 : decode cX1_parts 4 = .ok (.iload_n 2, 1) := by decide +kernel
theorem dX1_parts_5 : decode cX1_parts 5 = .ok (.bipush 9, 2) := by decide +kernel
theorem dX1_parts_7 : decode cX1_parts 7 = .ok (.if_icmp .ge 18, 3) := by decide +kernel
theorem dX1_parts_10 : decode cX1_parts 10 = .ok (.aload_n 0, 1) := by decide +kernel
theorem dX1_parts_11 : decode cX1_parts 11 = .ok (.iload_n 2, 1) := by decide +kernel
theorem dX1_parts_12 : decode cX1_parts 12 = .ok (.iaload, 1) := by decide +kernel
theorem dX1_parts_13 : decode cX1_parts 13 = .ok (.ifCond .eq 6, 3) := by decide +kernel
theorem dX1_parts_16 : decode cX1_parts 16 = .ok (.iinc 1 1, 3) := by decide +kernel
theorem dX1_parts_19 : decode cX1_parts 19 = .ok (.iinc 2 1, 3) := by decide +kernel
theorem dX1_parts_22 : decode cX1_parts 22 = .ok (.goto (-18), 3) := by decide +kernel
theorem dX1_parts_25 : decode cX1_parts 25 = .ok (.iload_n 1, 1) := by decide +kernel
theorem dX1_parts_26 : decode cX1_parts 26 = .ok (.ireturn, 1) := by decide +kernel
theorem dX1_hungerFor_0 : decode cX1_hungerFor 0 = .ok (.iconst 0, 1) := by decide +kernel
theorem dX1_hungerFor_1 : decode cX1_hungerFor 1 = .ok (.istore_n 2, 1) := by decide +kernel
theorem dX1_hungerFor_2 : decode cX1_hungerFor 2 = .ok (.bipush 8, 2) := by decide +kernel
theorem dX1_hungerFor_4 : decode cX1_hungerFor 4 = .ok (.istore_n 3, 1) := by decide +kernel
theorem dX1_hungerFor_5 : decode cX1_hungerFor 5 = .ok (.iload_n 3, 1) := by decide +kernel
theorem dX1_hungerFor_6 : decode cX1_hungerFor 6 = .ok (.ifCond .lt 17, 3) := by decide +kernel
theorem dX1_hungerFor_9 : decode cX1_hungerFor 9 = .ok (.iload_n 2, 1) := by decide +kernel
theorem dX1_hungerFor_10 : decode cX1_hungerFor 10 = .ok (.iload_n 1, 1) := by decide +kernel
theorem dX1_hungerFor_11 : decode cX1_hungerFor 11 = .ok (.imul, 1) := by decide +kernel
theorem dX1_hungerFor_12 : decode cX1_hungerFor 12 = .ok (.aload_n 0, 1) := by decide +kernel
theorem dX1_hungerFor_13 : decode cX1_hungerFor 13 = .ok (.iload_n 3, 1) := by decide +kernel
theorem dX1_hungerFor_14 : decode cX1_hungerFor 14 = .ok (.iaload, 1) := by decide +kernel
theorem dX1_hungerFor_15 : decode cX1_hungerFor 15 = .ok (.iadd, 1) := by decide +kernel
theorem dX1_hungerFor_16 : decode cX1_hungerFor 16 = .ok (.istore_n 2, 1) := by decide +kernel
theorem dX1_hungerFor_17 : decode cX1_hungerFor 17 = .ok (.iinc 3 (-1), 3) := by decide +kernel
theorem dX1_hungerFor_20 : decode cX1_hungerFor 20 = .ok (.goto (-15), 3) := by decide +kernel
theorem dX1_hungerFor_23 : decode cX1_hungerFor 23 = .ok (.iload_n 2, 1) := by decide +kernel
theorem dX1_hungerFor_24 : decode cX1_hungerFor 24 = .ok (.ireturn, 1) := by decide +kernel
theorem dX1_moveBy_0 : decode cX1_moveBy 0 = .ok (.iconst 0, 1) := by decide +kernel
theorem dX1_moveBy_1 : decode cX1_moveBy 1 = .ok (.istore_n 2, 1) := by decide +kernel
theorem dX1_moveBy_2 : decode cX1_moveBy 2 = .ok (.iload_n 2, 1) := by decide +kernel
theorem dX1_moveBy_3 : decode cX1_moveBy 3 = .ok (.bipush 8, 2) := by decide +kernel
theorem dX1_moveBy_5 : decode cX1_moveBy 5 = .ok (.if_icmp .ge 36, 3) := by decide +kernel
theorem dX1_moveBy_8 : decode cX1_moveBy 8 = .ok (.bipush 7, 2) := by decide +kernel
theorem dX1_moveBy_10 : decode cX1_moveBy 10 = .ok (.istore_n 3, 1) := by decide +kernel
theorem dX1_moveBy_11 : decode cX1_moveBy 11 = .ok (.iload_n 3, 1) := by decide +kernel
theorem dX1_moveBy_12 : decode cX1_moveBy 12 = .ok (.iload_n 2, 1) := by decide +kernel
theorem dX1_moveBy_13 : decode cX1_moveBy 13 = .ok (.if_icmp .lt 22, 3) := by decide +kernel
theorem dX1_moveBy_16 : decode cX1_moveBy 16 = .ok (.aload_n 0, 1) := by decide +kernel
theorem dX1_moveBy_17 : decode cX1_moveBy 17 = .ok (.iload_n 3, 1) := by decide +kernel
theorem dX1_moveBy_18 : decode cX1_moveBy 18 = .ok (.dup2, 1) := by decide +kernel
theorem dX1_moveBy_19 : decode cX1_moveBy 19 = .ok (.iaload, 1) := by decide +kernel
theorem dX1_moveBy_20 : decode cX1_moveBy 20 = .ok (.iload_n 1, 1) := by decide +kernel
theorem dX1_moveBy_21 : decode cX1_moveBy 21 = .ok (.aload_n 0, 1) := by decide +kernel
theorem dX1_moveBy_22 : decode cX1_moveBy 22 = .ok (.iload_n 3, 1) := by decide +kernel
theorem dX1_moveBy_23 : decode cX1_moveBy 23 = .ok (.iconst 1, 1) := by decide +kernel
theorem dX1_moveBy_24 : decode cX1_moveBy 24 = .ok (.iadd, 1) := by decide +kernel
theorem dX1_moveBy_25 : decode cX1_moveBy 25 = .ok (.iaload, 1) := by decide +kernel
theorem dX1_moveBy_26 : decode cX1_moveBy 26 = .ok (.imul, 1) := by decide +kernel
theorem dX1_moveBy_27 : decode cX1_moveBy 27 = .ok (.iadd, 1) := by decide +kernel
theorem dX1_moveBy_28 : decode cX1_moveBy 28 = .ok (.iastore, 1) := by decide +kernel
theorem dX1_moveBy_29 : decode cX1_moveBy 29 = .ok (.iinc 3 (-1), 3) := by decide +kernel
theorem dX1_moveBy_32 : decode cX1_moveBy 32 = .ok (.goto (-21), 3) := by decide +kernel
theorem dX1_moveBy_35 : decode cX1_moveBy 35 = .ok (.iinc 2 1, 3) := by decide +kernel
theorem dX1_moveBy_38 : decode cX1_moveBy 38 = .ok (.goto (-36), 3) := by decide +kernel
theorem dX1_moveBy_41 : decode cX1_moveBy 41 = .ok (.return_, 1) := by decide +kernel
theorem dX1_multiply_0 : decode cX1_multiply 0 = .ok (.aload_n 2, 1) := by decide +kernel
theorem dX1_multiply_1 : decode cX1_multiply 1 = .ok (.invokestatic 15, 3) := by decide +kernel
theorem dX1_multiply_4 : decode cX1_multiply 4 = .ok (.iconst 0, 1) := by decide +kernel
theorem dX1_multiply_5 : decode cX1_multiply 5 = .ok (.istore_n 3, 1) := by decide +kernel
theorem dX1_multiply_6 : decode cX1_multiply 6 = .ok (.iload_n 3, 1) := by decide +kernel
theorem dX1_multiply_7 : decode cX1_multiply 7 = .ok (.bipush 9, 2) := by decide +kernel
theorem dX1_multiply_9 : decode cX1_multiply 9 = .ok (.if_icmp .ge 44, 3) := by decide +kernel
theorem dX1_multiply_12 : decode cX1_multiply 12 = .ok (.iconst 0, 1) := by decide +kernel
theorem dX1_multiply_13 : decode cX1_multiply 13 = .ok (.istore 4, 2) := by decide +kernel
theorem dX1_multiply_15 : decode cX1_multiply 15 = .ok (.iload_n 3, 1) := by decide +kernel
theorem dX1_multiply_16 : decode cX1_multiply 16 = .ok (.iload 4, 2) := by decide +kernel
theorem dX1_multiply_18 : decode cX1_multiply 18 = .ok (.iadd, 1) := by decide +kernel
theorem dX1_multiply_19 : decode cX1_multiply 19 = .ok (.bipush 9, 2) := by decide +kernel
theorem dX1_multiply_21 : decode cX1_multiply 21 = .ok (.if_icmp .ge 26, 3) := by decide +kernel
theorem dX1_multiply_24 : decode cX1_multiply 24 = .ok (.aload_n 2, 1) := by decide +kernel
theorem dX1_multiply_25 : decode cX1_multiply 25 = .ok (.iload_n 3, 1) := by decide +kernel
theorem dX1_multiply_26 : decode cX1_multiply 26 = .ok (.iload 4, 2) := by decide +kernel
theorem dX1_multiply_28 : decode cX1_multiply 28 = .ok (.iadd, 1) := by decide +kernel
theorem dX1_multiply_29 : decode cX1_multiply 29 = .ok (.dup2, 1) := by decide +kernel
theorem dX1_multiply_30 : decode cX1_multiply 30 = .ok (.iaload, 1) := by decide +kernel
theorem dX1_multiply_31 : decode cX1_multiply 31 = .ok (.aload_n 0, 1) := by decide +kernel
theorem dX1_multiply_32 : decode cX1_multiply 32 = .ok (.iload_n 3, 1) := by decide +kernel
theorem dX1_multiply_33 : decode cX1_multiply 33 = .ok (.iaload, 1) := by decide +kernel
theorem dX1_multiply_34 : decode cX1_multiply 34 = .ok (.aload_n 1, 1) := by decide +kernel
theorem dX1_multiply_35 : decode cX1_multiply 35 = .ok (.iload 4, 2) := by decide +kernel
theorem dX1_multiply_37 : decode cX1_multiply 37 = .ok (.iaload, 1) := by decide +kernel
theorem dX1_multiply_38 : decode cX1_multiply 38 = .ok (.imul, 1) := by decide +kernel
theorem dX1_multiply_39 : decode cX1_multiply 39 = .ok (.iadd, 1) := by decide +kernel
theorem dX1_multiply_40 : decode cX1_multiply 40 = .ok (.iastore, 1) := by decide +kernel
theorem dX1_multiply_41 : decode cX1_multiply 41 = .ok (.iinc 4 1, 3) := by decide +kernel
theorem dX1_multiply_44 : decode cX1_multiply 44 = .ok (.goto (-29), 3) := by decide +kernel
theorem dX1_multiply_47 : decode cX1_multiply 47 = .ok (.iinc 3 1, 3) := by decide +kernel
theorem dX1_multiply_50 : decode cX1_multiply 50 = .ok (.goto (-44), 3) := by decide +kernel
theorem dX1_multiply_53 : decode cX1_multiply 53 = .ok (.return_, 1) := by decide +kernel
theorem dX1_split_0 : decode cX1_split 0 = .ok (.aload_n 2, 1) := by decide +kernel
theorem dX1_split_1 : decode cX1_split 1 = .ok (.invokestatic 15, 3) := by decide +kernel
theorem dX1_split_4 : decode cX1_split 4 = .ok (.aload_n 0, 1) := by decide +kernel
theorem dX1_split_5 : decode cX1_split 5 = .ok (.aload_n 3, 1) := by decide +kernel
theorem dX1_split_6 : decode cX1_split 6 = .ok (.invokestatic 19, 3) := by decide +kernel
theorem dX1_split_9 : decode cX1_split 9 = .ok (.aload_n 1, 1) := by decide +kernel
theorem dX1_split_10 : decode cX1_split 10 = .ok (.invokestatic 9, 3) := by decide +kernel
theorem dX1_split_13 : decode cX1_split 13 = .ok (.istore 4, 2) := by decide +kernel
theorem dX1_split_15 : decode cX1_split 15 = .ok (.iload 4, 2) := by decide +kernel
theorem dX1_split_17 : decode cX1_split 17 = .ok (.ifCond .ge 4, 3) := by decide +kernel
theorem dX1_split_20 : decode cX1_split 20 = .ok (.return_, 1) := by decide +kernel
theorem dX1_split_21 : decode cX1_split 21 = .ok (.bipush 8, 2) := by decide +kernel
theorem dX1_split_23 : decode cX1_split 23 = .ok (.istore 5, 2) := by decide +kernel
theorem dX1_split_25 : decode cX1_split 25 = .ok (.iload 5, 2) := by decide +kernel
theorem dX1_split_27 : decode cX1_split 27 = .ok (.iload 4, 2) := by decide +kernel
theorem dX1_split_29 : decode cX1_split 29 = .ok (.if_icmp .lt 61, 3) := by decide +kernel
theorem dX1_split_32 : decode cX1_split 32 = .ok (.aload_n 3, 1) := by decide +kernel
theorem dX1_split_33 : decode cX1_split 33 = .ok (.iload 5, 2) := by decide +kernel
theorem dX1_split_35 : decode cX1_split 35 = .ok (.iaload, 1) := by decide +kernel
theorem dX1_split_36 : decode cX1_split 36 = .ok (.istore 6, 2) := by decide +kernel
theorem dX1_split_38 : decode cX1_split 38 = .ok (.iload 5, 2) := by decide +kernel
theorem dX1_split_40 : decode cX1_split 40 = .ok (.iload 4, 2) := by decide +kernel
theorem dX1_split_42 : decode cX1_split 42 = .ok (.isub, 1) := by decide +kernel
theorem dX1_split_43 : decode cX1_split 43 = .ok (.istore 7, 2) := by decide +kernel
theorem dX1_split_45 : decode cX1_split 45 = .ok (.aload_n 2, 1) := by decide +kernel
theorem dX1_split_46 : decode cX1_split 46 = .ok (.iload 7, 2) := by decide +kernel
theorem dX1_split_48 : decode cX1_split 48 = .ok (.iload 6, 2) := by decide +kernel
theorem dX1_split_50 : decode cX1_split 50 = .ok (.iastore, 1) := by decide +kernel
theorem dX1_split_51 : decode cX1_split 51 = .ok (.iconst 0, 1) := by decide +kernel
theorem dX1_split_52 : decode cX1_split 52 = .ok (.istore 8, 2) := by decide +kernel
theorem dX1_split_54 : decode cX1_split 54 = .ok (.iload 8, 2) := by decide +kernel
theorem dX1_split_56 : decode cX1_split 56 = .ok (.iload 4, 2) := by decide +kernel
theorem dX1_split_58 : decode cX1_split 58 = .ok (.if_icmp .gt 26, 3) := by decide +kernel
theorem dX1_split_61 : decode cX1_split 61 = .ok (.aload_n 3, 1) := by decide +kernel
theorem dX1_split_62 : decode cX1_split 62 = .ok (.iload 7, 2) := by decide +kernel
theorem dX1_split_64 : decode cX1_split 64 = .ok (.iload 8, 2) := by decide +kernel
theorem dX1_split_66 : decode cX1_split 66 = .ok (.iadd, 1) := by decide +kernel
theorem dX1_split_67 : decode cX1_split 67 = .ok (.dup2, 1) := by decide +kernel
theorem dX1_split_68 : decode cX1_split 68 = .ok (.iaload, 1) := by decide +kernel
theorem dX1_split_69 : decode cX1_split 69 = .ok (.iload 6, 2) := by decide +kernel
theorem dX1_split_71 : decode cX1_split 71 = .ok (.aload_n 1, 1) := by decide +kernel
theorem dX1_split_72 : decode cX1_split 72 = .ok (.iload 8, 2) := by decide +kernel
theorem dX1_split_74 : decode cX1_split 74 = .ok (.iaload, 1) := by decide +kernel
theorem dX1_split_75 : decode cX1_split 75 = .ok (.imul, 1) := by decide +kernel
theorem dX1_split_76 : decode cX1_split 76 = .ok (.isub, 1) := by decide +kernel
theorem dX1_split_77 : decode cX1_split 77 = .ok (.iastore, 1) := by decide +kernel
theorem dX1_split_78 : decode cX1_split 78 = .ok (.iinc 8 1, 3) := by decide +kernel
theorem dX1_split_81 : decode cX1_split 81 = .ok (.goto (-27), 3) := by decide +kernel
theorem dX1_split_84 : decode cX1_split 84 = .ok (.iinc 5 (-1), 3) := by decide +kernel
theorem dX1_split_87 : decode cX1_split 87 = .ok (.goto (-62), 3) := by decide +kernel
theorem dX1_split_90 : decode cX1_split 90 = .ok (.return_, 1) := by decide +kernel
theorem dX1_divideByLess_0 : decode cX1_divideByLess 0 = .ok (.iconst 0, 1) := by decide +kernel
theorem dX1_divideByLess_1 : decode cX1_divideByLess 1 = .ok (.istore_n 2, 1) := by decide +kernel
theorem dX1_divideByLess_2 : decode cX1_divideByLess 2 = .ok (.bipush 8, 2) := by decide +kernel
theorem dX1_divideByLess_4 : decode cX1_divideByLess 4 = .ok (.istore_n 3, 1) := by decide +kernel
theorem dX1_divideByLess_5 : decode cX1_divideByLess 5 = .ok (.iload_n 3, 1) := by decide +kernel
theorem dX1_divideByLess_6 : decode cX1_divideByLess 6 = .ok (.ifCond .lt 25, 3) := by decide +kernel
theorem dX1_divideByLess_9 : decode cX1_divideByLess 9 = .ok (.aload_n 0, 1) := by decide +kernel
theorem dX1_divideByLess_10 : decode cX1_divideByLess 10 = .ok (.iload_n 3, 1) := by decide +kernel
theorem dX1_divideByLess_11 : decode cX1_divideByLess 11 = .ok (.iaload, 1) := by decide +kernel
theorem dX1_divideByLess_12 : decode cX1_divideByLess 12 = .ok (.istore 4, 2) := by decide +kernel
theorem dX1_divideByLess_14 : decode cX1_divideByLess 14 = .ok (.aload_n 0, 1) := by decide +kernel
theorem dX1_divideByLess_15 : decode cX1_divideByLess 15 = .ok (.iload_n 3, 1) := by decide +kernel
theorem dX1_divideByLess_16 : decode cX1_divideByLess 16 = .ok (.iload_n 2, 1) := by decide +kernel
theorem dX1_divideByLess_17 : decode cX1_divideByLess 17 = .ok (.iastore, 1) := by decide +kernel
theorem dX1_divideByLess_18 : decode cX1_divideByLess 18 = .ok (.iload_n 2, 1) := by decide +kernel
theorem dX1_divideByLess_19 : decode cX1_divideByLess 19 = .ok (.iload_n 1, 1) := by decide +kernel
theorem dX1_divideByLess_20 : decode cX1_divideByLess 20 = .ok (.imul, 1) := by decide +kernel
theorem dX1_divideByLess_21 : decode cX1_divideByLess 21 = .ok (.iload 4, 2) := by decide +kernel
theorem dX1_divideByLess_23 : decode cX1_divideByLess 23 = .ok (.iadd, 1) := by decide +kernel
theorem dX1_divideByLess_24 : decode cX1_divideByLess 24 = .ok (.istore_n 2, 1) := by decide +kernel
theorem dX1_divideByLess_25 : decode cX1_divideByLess 25 = .ok (.iinc 3 (-1), 3) := by decide +kernel
theorem dX1_divideByLess_28 : decode cX1_divideByLess 28 = .ok (.goto (-23), 3) := by decide +kernel
theorem dX1_divideByLess_31 : decode cX1_divideByLess 31 = .ok (.return_, 1) := by decide +kernel
theorem dX1_withoutSign_0 : decode cX1_withoutSign 0 = .ok (.iload_n 0, 1) := by decide +kernel
theorem dX1_withoutSign_1 : decode cX1_withoutSign 1 = .ok (.i2l, 1) := by decide +kernel
theorem dX1_withoutSign_2 : decode cX1_withoutSign 2 = .ok (.lstore_n 1, 1) := by decide +kernel
theorem dX1_withoutSign_3 : decode cX1_withoutSign 3 = .ok (.lload_n 1, 1) := by decide +kernel
theorem dX1_withoutSign_4 : decode cX1_withoutSign 4 = .ok (.lconst 0, 1) := by decide +kernel
theorem dX1_withoutSign_5 : decode cX1_withoutSign 5 = .ok (.lcmp, 1) := by decide +kernel
theorem dX1_withoutSign_6 : decode cX1_withoutSign 6 = .ok (.ifCond .ge 8, 3) := by decide +kernel
theorem dX1_withoutSign_9 : decode cX1_withoutSign 9 = .ok (.lload_n 1, 1) := by decide +kernel
theorem dX1_withoutSign_10 : decode cX1_withoutSign 10 = .ok (.lneg, 1) := by decide +kernel
theorem dX1_withoutSign_11 : decode cX1_withoutSign 11 = .ok (.goto 4, 3) := by decide +kernel
theorem dX1_withoutSign_14 : decode cX1_withoutSign 14 = .ok (.lload_n 1, 1) := by decide +kernel
theorem dX1_withoutSign_15 : decode cX1_withoutSign 15 = .ok (.lreturn, 1) := by decide +kernel
theorem dX1_commonDivisor_0 : decode cX1_commonDivisor 0 = .ok (.lload_n 0, 1) := by decide +kernel
theorem dX1_commonDivisor_1 : decode cX1_commonDivisor 1 = .ok (.lstore 4, 2) := by decide +kernel
theorem dX1_commonDivisor_3 : decode cX1_commonDivisor 3 = .ok (.lload_n 2, 1) := by decide +kernel
theorem dX1_commonDivisor_4 : decode cX1_commonDivisor 4 = .ok (.lstore 6, 2) := by decide +kernel
theorem dX1_commonDivisor_6 : decode cX1_commonDivisor 6 = .ok (.iconst 0, 1) := by decide +kernel
theorem dX1_commonDivisor_7 : decode cX1_commonDivisor 7 = .ok (.istore 8, 2) := by decide +kernel
theorem dX1_commonDivisor_9 : decode cX1_commonDivisor 9 = .ok (.iload 8, 2) := by decide +kernel
theorem dX1_commonDivisor_11 : decode cX1_commonDivisor 11 = .ok (.bipush 100, 2) := by decide +kernel
theorem dX1_commonDivisor_13 : decode cX1_commonDivisor 13 = .ok (.if_icmp .ge 31, 3) := by decide +kernel
theorem dX1_commonDivisor_16 : decode cX1_commonDivisor 16 = .ok (.lload 6, 2) := by decide +kernel
theorem dX1_commonDivisor_18 : decode cX1_commonDivisor 18 = .ok (.lconst 0, 1) := by decide +kernel
theorem dX1_commonDivisor_19 : decode cX1_commonDivisor 19 = .ok (.lcmp, 1) := by decide +kernel
theorem dX1_commonDivisor_20 : decode cX1_commonDivisor 20 = .ok (.ifCond .eq 24, 3) := by decide +kernel
theorem dX1_commonDivisor_23 : decode cX1_commonDivisor 23 = .ok (.lload 4, 2) := by decide +kernel
theorem dX1_commonDivisor_25 : decode cX1_commonDivisor 25 = .ok (.lload 6, 2) := by decide +kernel
theorem dX1_commonDivisor_27 : decode cX1_commonDivisor 27 = .ok (.lrem, 1) := by decide +kernel
theorem dX1_commonDivisor_28 : decode cX1_commonDivisor 28 = .ok (.lstore 9, 2) := by decide +kernel
theorem dX1_commonDivisor_30 : decode cX1_commonDivisor 30 = .ok (.lload 6, 2) := by decide +kernel
theorem dX1_commonDivisor_32 : decode cX1_commonDivisor 32 = .ok (.lstore 4, 2) := by decide +kernel
theorem dX1_commonDivisor_34 : decode cX1_commonDivisor 34 = .ok (.lload 9, 2) := by decide +kernel
theorem dX1_commonDivisor_36 : decode cX1_commonDivisor 36 = .ok (.lstore 6, 2) := by decide +kernel
theorem dX1_commonDivisor_38 : decode cX1_commonDivisor 38 = .ok (.iinc 8 1, 3) := by decide +kernel
theorem dX1_commonDivisor_41 : decode cX1_commonDivisor 41 = .ok (.goto (-32), 3) := by decide +kernel
theorem dX1_commonDivisor_44 : decode cX1_commonDivisor 44 = .ok (.lload 4, 2) := by decide +kernel
theorem dX1_commonDivisor_46 : decode cX1_commonDivisor 46 = .ok (.lreturn, 1) := by decide +kernel
theorem dX2_init_0 : decode cX2_init 0 = .ok (.aload_n 0, 1) := by decide +kernel
theorem dX2_init_1 : decode cX2_init 1 = .ok (.invokespecial 1, 3) := by decide +kernel
theorem dX2_init_4 : decode cX2_init 4 = .ok (.aload_n 0, 1) := by decide +kernel
theorem dX2_init_5 : decode cX2_init 5 = .ok (.bipush 16, 2) := by decide +kernel
theorem dX2_init_7 : decode cX2_init 7 = .ok (.bipush 9, 2) := by decide +kernel
theorem dX2_init_9 : decode cX2_init 9 = .ok (.multianewarray 9 2, 4) := by decide +kernel
theorem dX2_init_13 : decode cX2_init 13 = .ok (.putfield 11, 3) := by decide +kernel
theorem dX2_init_16 : decode cX2_init 16 = .ok (.aload_n 0, 1) := by decide +kernel
theorem dX2_init_17 : decode cX2_init 17 = .ok (.iconst 0, 1) := by decide +kernel
theorem dX2_init_18 : decode cX2_init 18 = .ok (.putfield 14, 3) := by decide +kernel
theorem dX2_init_21 : decode cX2_init 21 = .ok (.aload_n 0, 1) := by decide +kernel
theorem dX2_init_22 : decode cX2_init 22 = .ok (.bipush 9, 2) := by decide +kernel
theorem dX2_init_24 : decode cX2_init 24 = .ok (.newarray .int, 2) := by decide +kernel
theorem dX2_init_26 : decode cX2_init 26 = .ok (.putfield 18, 3) := by decide +kernel
theorem dX2_init_29 : decode cX2_init 29 = .ok (.aload_n 0, 1) := by decide +kernel
theorem dX2_init_30 : decode cX2_init 30 = .ok (.bipush 9, 2) := by decide +kernel
theorem dX2_init_32 : decode cX2_init 32 = .ok (.newarray .int, 2) := by decide +kernel
theorem dX2_init_34 : decode cX2_init 34 = .ok (.putfield 22, 3) := by decide +kernel
theorem dX2_init_37 : decode cX2_init 37 = .ok (.aload_n 0, 1) := by decide +kernel
theorem dX2_init_38 : decode cX2_init 38 = .ok (.new 25, 3) := by decide +kernel
theorem dX2_init_41 : decode cX2_init 41 = .ok (.dup, 1) := by decide +kernel
theorem dX2_init_42 : decode cX2_init 42 = .ok (.invokespecial 27, 3) := by decide +kernel
theorem dX2_init_45 : decode cX2_init 45 = .ok (.putfield 28, 3) := by decide +kernel
theorem dX2_init_48 : decode cX2_init 48 = .ok (.return_, 1) := by decide +kernel
theorem dX2_addRecipe_0 : decode cX2_addRecipe 0 = .ok (.aload_n 0, 1) := by decide +kernel
theorem dX2_addRecipe_1 : decode cX2_addRecipe 1 = .ok (.invokevirtual 32, 3) := by decide +kernel
theorem dX2_addRecipe_4 : decode cX2_addRecipe 4 = .ok (.pop, 1) := by decide +kernel
theorem dX2_addRecipe_5 : decode cX2_addRecipe 5 = .ok (.aload_n 0, 1) := by decide +kernel
theorem dX2_addRecipe_6 : decode cX2_addRecipe 6 = .ok (.getfield 14, 3) := by decide +kernel
theorem dX2_addRecipe_9 : decode cX2_addRecipe 9 = .ok (.iconst 1, 1) := by decide +kernel
theorem dX2_addRecipe_10 : decode cX2_addRecipe 10 = .ok (.isub, 1) := by decide +kernel
theorem dX2_addRecipe_11 : decode cX2_addRecipe 11 = .ok (.ireturn, 1) := by decide +kernel
theorem dX2_set_0 : decode cX2_set 0 = .ok (.aload_n 0, 1) := by decide +kernel
theorem dX2_set_1 : decode cX2_set 1 = .ok (.iload_n 1, 1) := by decide +kernel
theorem dX2_set_2 : decode cX2_set 2 = .ok (.invokevirtual 36, 3) := by decide +kernel
theorem dX2_set_5 : decode cX2_set 5 = .ok (.astore 4, 2) := by decide +kernel
theorem dX2_set_7 : decode cX2_set 7 = .ok (.iload_n 2, 1) := by decide +kernel
theorem dX2_set_8 : decode cX2_set 8 = .ok (.invokestatic 40, 3) := by decide +kernel
theorem dX2_set_11 : decode cX2_set 11 = .ok (.iload_n 3, 1) := by decide +kernel
theorem dX2_set_12 : decode cX2_set 12 = .ok (.sipush (-999), 3) := by decide +kernel
theorem dX2_set_15 : decode cX2_set 15 = .ok (.if_icmp .lt 10, 3) := by decide +kernel
theorem dX2_set_18 : decode cX2_set 18 = .ok (.iload_n 3, 1) := by decide +kernel
theorem dX2_set_19 : decode cX2_set 19 = .ok (.sipush 999, 3) := by decide +kernel
theorem dX2_set_22 : decode cX2_set 22 = .ok (.if_icmp .le 13, 3) := by decide +kernel
theorem dX2_set_25 : decode cX2_set 25 = .ok (.new 44, 3) := by decide +kernel
theorem dX2_set_28 : decode cX2_set 28 = .ok (.dup, 1) := by decide +kernel
theorem dX2_set_29 : decode cX2_set 29 = .ok (.ldc 46, 2) := by decide +kernel
theorem dX2_set_31 : decode cX2_set 31 = .ok (.invokespecial 48, 3) := by decide +kernel
theorem dX2_set_34 : decode cX2_set 34 = .ok (.athrow, 1) := by decide +kernel
theorem dX2_set_35 : decode cX2_set 35 = .ok (.aload 4, 2) := by decide +kernel
theorem dX2_set_37 : decode cX2_set 37 = .ok (.iload_n 2, 1) := by decide +kernel
theorem dX2_set_38 : decode cX2_set 38 = .ok (.iaload, 1) := by decide +kernel
theorem dX2_set_39 : decode cX2_set 39 = .ok (.istore 5, 2) := by decide +kernel
theorem dX2_set_41 : decode cX2_set 41 = .ok (.aload 4, 2) := by decide +kernel
theorem dX2_set_43 : decode cX2_set 43 = .ok (.iload_n 2, 1) := by decide +kernel
theorem dX2_set_44 : decode cX2_set 44 = .ok (.iload_n 3, 1) := by decide +kernel
theorem dX2_set_45 : decode cX2_set 45 = .ok (.iastore, 1) := by decide +kernel
theorem dX2_set_46 : decode cX2_set 46 = .ok (.iload 5, 2) := by decide +kernel
theorem dX2_set_48 : decode cX2_set 48 = .ok (.ireturn, 1) := by decide +kernel
theorem dX2_drop_0 : decode cX2_drop 0 = .ok (.aload_n 0, 1) := by decide +kernel
theorem dX2_drop_1 : decode cX2_drop 1 = .ok (.iload_n 1, 1) := by decide +kernel
theorem dX2_drop_2 : decode cX2_drop 2 = .ok (.invokevirtual 36, 3) := by decide +kernel
theorem dX2_drop_5 : decode cX2_drop 5 = .ok (.invokestatic 51, 3) := by decide +kernel
theorem dX2_drop_8 : decode cX2_drop 8 = .ok (.istore_n 2, 1) := by decide +kernel
theorem dX2_drop_9 : decode cX2_drop 9 = .ok (.iload_n 1, 1) := by decide +kernel
theorem dX2_drop_10 : decode cX2_drop 10 = .ok (.iconst 1, 1) := by decide +kernel
theorem dX2_drop_11 : decode cX2_drop 11 = .ok (.iadd, 1) := by decide +kernel
theorem dX2_drop_12 : decode cX2_drop 12 = .ok (.istore_n 3, 1) := by decide +kernel
theorem dX2_drop_13 : decode cX2_drop 13 = .ok (.iload_n 3, 1) := by decide +kernel
theorem dX2_drop_14 : decode cX2_drop 14 = .ok (.aload_n 0, 1) := by decide +kernel
theorem dX2_drop_15 : decode cX2_drop 15 = .ok (.getfield 14, 3) := by decide +kernel
theorem dX2_drop_18 : decode cX2_drop 18 = .ok (.if_icmp .ge 26, 3) := by decide +kernel
theorem dX2_drop_21 : decode cX2_drop 21 = .ok (.aload_n 0, 1) := by decide +kernel
theorem dX2_drop_22 : decode cX2_drop 22 = .ok (.getfield 11, 3) := by decide +kernel
theorem dX2_drop_25 : decode cX2_drop 25 = .ok (.iload_n 3, 1) := by decide +kernel
theorem dX2_drop_26 : decode cX2_drop 26 = .ok (.aaload, 1) := by decide +kernel
theorem dX2_drop_27 : decode cX2_drop 27 = .ok (.aload_n 0, 1) := by decide +kernel
theorem dX2_drop_28 : decode cX2_drop 28 = .ok (.getfield 11, 3) := by decide +kernel
theorem dX2_drop_31 : decode cX2_drop 31 = .ok (.iload_n 3, 1) := by decide +kernel
theorem dX2_drop_32 : decode cX2_drop 32 = .ok (.iconst 1, 1) := by decide +kernel
theorem dX2_drop_33 : decode cX2_drop 33 = .ok (.isub, 1) := by decide +kernel
theorem dX2_drop_34 : decode cX2_drop 34 = .ok (.aaload, 1) := by decide +kernel
theorem dX2_drop_35 : decode cX2_drop 35 = .ok (.invokestatic 57, 3) := by decide +kernel
theorem dX2_drop_38 : decode cX2_drop 38 = .ok (.iinc 3 1, 3) := by decide +kernel
theorem dX2_drop_41 : decode cX2_drop 41 = .ok (.goto (-28), 3) := by decide +kernel
theorem dX2_drop_44 : decode cX2_drop 44 = .ok (.aload_n 0, 1) := by decide +kernel
theorem dX2_drop_45 : decode cX2_drop 45 = .ok (.dup, 1) := by decide +kernel
theorem dX2_drop_46 : decode cX2_drop 46 = .ok (.getfield 14, 3) := by decide +kernel
theorem dX2_drop_49 : decode cX2_drop 49 = .ok (.iconst 1, 1) := by decide +kernel
theorem dX2_drop_50 : decode cX2_drop 50 = .ok (.isub, 1) := by decide +kernel
theorem dX2_drop_51 : decode cX2_drop 51 = .ok (.putfield 14, 3) := by decide +kernel
theorem dX2_drop_54 : decode cX2_drop 54 = .ok (.iload_n 2, 1) := by decide +kernel
theorem dX2_drop_55 : decode cX2_drop 55 = .ok (.ireturn, 1) := by decide +kernel
theorem dX2_scale_0 : decode cX2_scale 0 = .ok (.aload_n 0, 1) := by decide +kernel
theorem dX2_scale_1 : decode cX2_scale 1 = .ok (.iload_n 1, 1) := by decide +kernel
theorem dX2_scale_2 : decode cX2_scale 2 = .ok (.invokevirtual 36, 3) := by decide +kernel
theorem dX2_scale_5 : decode cX2_scale 5 = .ok (.astore_n 3, 1) := by decide +kernel
theorem dX2_scale_6 : decode cX2_scale 6 = .ok (.iconst 0, 1) := by decide +kernel
theorem dX2_scale_7 : decode cX2_scale 7 = .ok (.istore 4, 2) := by decide +kernel
theorem dX2_scale_9 : decode cX2_scale 9 = .ok (.iload 4, 2) := by decide +kernel
theorem dX2_scale_11 : decode cX2_scale 11 = .ok (.bipush 9, 2) := by decide +kernel
theorem dX2_scale_13 : decode cX2_scale 13 = .ok (.if_icmp .ge 17, 3) := by decide +kernel
theorem dX2_scale_16 : decode cX2_scale 16 = .ok (.aload_n 3, 1) := by decide +kernel
theorem dX2_scale_17 : decode cX2_scale 17 = .ok (.iload 4, 2) := by decide +kernel
theorem dX2_scale_19 : decode cX2_scale 19 = .ok (.dup2, 1) := by decide +kernel
theorem dX2_scale_20 : decode cX2_scale 20 = .ok (.iaload, 1) := by decide +kernel
theorem dX2_scale_21 : decode cX2_scale 21 = .ok (.iload_n 2, 1) := by decide +kernel
theorem dX2_scale_22 : decode cX2_scale 22 = .ok (.imul, 1) := by decide +kernel
theorem dX2_scale_23 : decode cX2_scale 23 = .ok (.iastore, 1) := by decide +kernel
theorem dX2_scale_24 : decode cX2_scale 24 = .ok (.iinc 4 1, 3) := by decide +kernel
theorem dX2_scale_27 : decode cX2_scale 27 = .ok (.goto (-18), 3) := by decide +kernel
theorem dX2_scale_30 : decode cX2_scale 30 = .ok (.aload_n 3, 1) := by decide +kernel
theorem dX2_scale_31 : decode cX2_scale 31 = .ok (.invokestatic 51, 3) := by decide +kernel
theorem dX2_scale_34 : decode cX2_scale 34 = .ok (.ireturn, 1) := by decide +kernel
theorem dX2_shift_0 : decode cX2_shift 0 = .ok (.aload_n 0, 1) := by decide +kernel
theorem dX2_shift_1 : decode cX2_shift 1 = .ok (.iload_n 1, 1) := by decide +kernel
theorem dX2_shift_2 : decode cX2_shift 2 = .ok (.invokevirtual 36, 3) := by decide +kernel
theorem dX2_shift_5 : decode cX2_shift 5 = .ok (.astore_n 3, 1) := by decide +kernel
theorem dX2_shift_6 : decode cX2_shift 6 = .ok (.iload_n 2, 1) := by decide +kernel
theorem dX2_shift_7 : decode cX2_shift 7 = .ok (.bipush (-20), 2) := by decide +kernel
theorem dX2_shift_9 : decode cX2_shift 9 = .ok (.if_icmp .lt 9, 3) := by decide +kernel
theorem dX2_shift_12 : decode cX2_shift 12 = .ok (.iload_n 2, 1) := by decide +kernel
theorem dX2_shift_13 : decode cX2_shift 13 = .ok (.bipush 20, 2) := by decide +kernel
theorem dX2_shift_15 : decode cX2_shift 15 = .ok (.if_icmp .le 13, 3) := by decide +kernel
theorem dX2_shift_18 : decode cX2_shift 18 = .ok (.new 44, 3) := by decide +kernel
theorem dX2_shift_21 : decode cX2_shift 21 = .ok (.dup, 1) := by decide +kernel
theorem dX2_shift_22 : decode cX2_shift 22 = .ok (.ldc 61, 2) := by decide +kernel
theorem dX2_shift_24 : decode cX2_shift 24 = .ok (.invokespecial 48, 3) := by decide +kernel
theorem dX2_shift_27 : decode cX2_shift 27 = .ok (.athrow, 1) := by decide +kernel
theorem dX2_shift_28 : decode cX2_shift 28 = .ok (.aload_n 3, 1) := by decide +kernel
theorem dX2_shift_29 : decode cX2_shift 29 = .ok (.iload_n 2, 1) := by decide +kernel
theorem dX2_shift_30 : decode cX2_shift 30 = .ok (.invokestatic 63, 3) := by decide +kernel
theorem dX2_shift_33 : decode cX2_shift 33 = .ok (.aload_n 3, 1) := by decide +kernel
theorem dX2_shift_34 : decode cX2_shift 34 = .ok (.iconst 0, 1) := by decide +kernel
theorem dX2_shift_35 : decode cX2_shift 35 = .ok (.iaload, 1) := by decide +kernel
theorem dX2_shift_36 : decode cX2_shift 36 = .ok (.ireturn, 1) := by decide +kernel
theorem dX2_sum_0 : decode cX2_sum 0 = .ok (.aload_n 0, 1) := by decide +kernel
theorem dX2_sum_1 : decode cX2_sum 1 = .ok (.iload_n 1, 1) := by decide +kernel
theorem dX2_sum_2 : decode cX2_sum 2 = .ok (.invokevirtual 36, 3) := by decide +kernel
theorem dX2_sum_5 : decode cX2_sum 5 = .ok (.astore_n 3, 1) := by decide +kernel
theorem dX2_sum_6 : decode cX2_sum 6 = .ok (.aload_n 0, 1) := by decide +kernel
theorem dX2_sum_7 : decode cX2_sum 7 = .ok (.iload_n 2, 1) := by decide +kernel
theorem dX2_sum_8 : decode cX2_sum 8 = .ok (.invokevirtual 36, 3) := by decide +kernel
theorem dX2_sum_11 : decode cX2_sum 11 = .ok (.astore 4, 2) := by decide +kernel
theorem dX2_sum_13 : decode cX2_sum 13 = .ok (.aload_n 0, 1) := by decide +kernel
theorem dX2_sum_14 : decode cX2_sum 14 = .ok (.invokevirtual 32, 3) := by decide +kernel
theorem dX2_sum_17 : decode cX2_sum 17 = .ok (.astore 5, 2) := by decide +kernel
theorem dX2_sum_19 : decode cX2_sum 19 = .ok (.iconst 0, 1) := by decide +kernel
theorem dX2_sum_20 : decode cX2_sum 20 = .ok (.istore 6, 2) := by decide +kernel
theorem dX2_sum_22 : decode cX2_sum 22 = .ok (.iload 6, 2) := by decide +kernel
theorem dX2_sum_24 : decode cX2_sum 24 = .ok (.bipush 9, 2) := by decide +kernel
theorem dX2_sum_26 : decode cX2_sum 26 = .ok (.if_icmp .ge 24, 3) := by decide +kernel
theorem dX2_sum_29 : decode cX2_sum 29 = .ok (.aload 5, 2) := by decide +kernel
theorem dX2_sum_31 : decode cX2_sum 31 = .ok (.iload 6, 2) := by decide +kernel
theorem dX2_sum_33 : decode cX2_sum 33 = .ok (.aload_n 3, 1) := by decide +kernel
theorem dX2_sum_34 : decode cX2_sum 34 = .ok (.iload 6, 2) := by decide +kernel
theorem dX2_sum_36 : decode cX2_sum 36 = .ok (.iaload, 1) := by decide +kernel
theorem dX2_sum_37 : decode cX2_sum 37 = .ok (.aload 4, 2) := by decide +kernel
theorem dX2_sum_39 : decode cX2_sum 39 = .ok (.iload 6, 2) := by decide +kernel
theorem dX2_sum_41 : decode cX2_sum 41 = .ok (.iaload, 1) := by decide +kernel
theorem dX2_sum_42 : decode cX2_sum 42 = .ok (.iadd, 1) := by decide +kernel
theorem dX2_sum_43 : decode cX2_sum 43 = .ok (.iastore, 1) := by decide +kernel
theorem dX2_sum_44 : decode cX2_sum 44 = .ok (.iinc 6 1, 3) := by decide +kernel
theorem dX2_sum_47 : decode cX2_sum 47 = .ok (.goto (-25), 3) := by decide +kernel
theorem dX2_sum_50 : decode cX2_sum 50 = .ok (.aload_n 0, 1) := by decide +kernel
theorem dX2_sum_51 : decode cX2_sum 51 = .ok (.getfield 14, 3) := by decide +kernel
theorem dX2_sum_54 : decode cX2_sum 54 = .ok (.iconst 1, 1) := by decide +kernel
theorem dX2_sum_55 : decode cX2_sum 55 = .ok (.isub, 1) := by decide +kernel
theorem dX2_sum_56 : decode cX2_sum 56 = .ok (.ireturn, 1) := by decide +kernel
theorem dX2_difference_0 : decode cX2_difference 0 = .ok (.aload_n 0, 1) := by decide +kernel
theorem dX2_difference_1 : decode cX2_difference 1 = .ok (.iload_n 1, 1) := by decide +kernel
theorem dX2_difference_2 : decode cX2_difference 2 = .ok (.invokevirtual 36, 3) := by decide +kernel
theorem dX2_difference_5 : decode cX2_difference 5 = .ok (.astore_n 3, 1) := by decide +kernel
theorem dX2_difference_6 : decode cX2_difference 6 = .ok (.aload_n 0, 1) := by decide +kernel
theorem dX2_difference_7 : decode cX2_difference 7 = .ok (.iload_n 2, 1) := by decide +kernel
theorem dX2_difference_8 : decode cX2_difference 8 = .ok (.invokevirtual 36, 3) := by decide +kernel
theorem dX2_difference_11 : decode cX2_difference 11 = .ok (.astore 4, 2) := by decide +kernel
theorem dX2_difference_13 : decode cX2_difference 13 = .ok (.aload_n 0, 1) := by decide +kernel
theorem dX2_difference_14 : decode cX2_difference 14 = .ok (.invokevirtual 32, 3) := by decide +kernel
theorem dX2_difference_17 : decode cX2_difference 17 = .ok (.astore 5, 2) := by decide +kernel
theorem dX2_difference_19 : decode cX2_difference 19 = .ok (.iconst 0, 1) := by decide +kernel
theorem dX2_difference_20 : decode cX2_difference 20 = .ok (.istore 6, 2) := by decide +kernel
theorem dX2_difference_22 : decode cX2_difference 22 = .ok (.iload 6, 2) := by decide +kernel
theorem dX2_difference_24 : decode cX2_difference 24 = .ok (.bipush 9, 2) := by decide +kernel
theorem dX2_difference_26 : decode cX2_difference 26 = .ok (.if_icmp .ge 24, 3) := by decide +kernel
theorem dX2_difference_29 : decode cX2_difference 29 = .ok (.aload 5, 2) := by decide +kernel
theorem dX2_difference_31 : decode cX2_difference 31 = .ok (.iload 6, 2) := by decide +kernel
theorem dX2_difference_33 : decode cX2_difference 33 = .ok (.aload_n 3, 1) := by decide +kernel
theorem dX2_difference_34 : decode cX2_difference 34 = .ok (.iload 6, 2) := by decide +kernel
theorem dX2_difference_36 : decode cX2_difference 36 = .ok (.iaload, 1) := by decide +kernel
theorem dX2_difference_37 : decode cX2_difference 37 = .ok (.aload 4, 2) := by decide +kernel
theorem dX2_difference_39 : decode cX2_difference 39 = .ok (.iload 6, 2) := by decide +kernel
theorem dX2_difference_41 : decode cX2_difference 41 = .ok (.iaload, 1) := by decide +kernel
theorem dX2_difference_42 : decode cX2_difference 42 = .ok (.isub, 1) := by decide +kernel
theorem dX2_difference_43 : decode cX2_difference 43 = .ok (.iastore, 1) := by decide +kernel
theorem dX2_difference_44 : decode cX2_difference 44 = .ok (.iinc 6 1, 3) := by decide +kernel
theorem dX2_difference_47 : decode cX2_difference 47 = .ok (.goto (-25), 3) := by decide +kernel
theorem dX2_difference_50 : decode cX2_difference 50 = .ok (.aload_n 0, 1) := by decide +kernel
theorem dX2_difference_51 : decode cX2_difference 51 = .ok (.getfield 14, 3) := by decide +kernel
theorem dX2_difference_54 : decode cX2_difference 54 = .ok (.iconst 1, 1) := by decide +kernel
theorem dX2_difference_55 : decode cX2_difference 55 = .ok (.isub, 1) := by decide +kernel
theorem dX2_difference_56 : decode cX2_difference 56 = .ok (.ireturn, 1) := by decide +kernel
theorem dX2_product_0 : decode cX2_product 0 = .ok (.aload_n 0, 1) := by decide +kernel
theorem dX2_product_1 : decode cX2_product 1 = .ok (.iload_n 1, 1) := by decide +kernel
theorem dX2_product_2 : decode cX2_product 2 = .ok (.invokevirtual 36, 3) := by decide +kernel
theorem dX2_product_5 : decode cX2_product 5 = .ok (.astore_n 3, 1) := by decide +kernel
theorem dX2_product_6 : decode cX2_product 6 = .ok (.aload_n 0, 1) := by decide +kernel
theorem dX2_product_7 : decode cX2_product 7 = .ok (.iload_n 2, 1) := by decide +kernel
theorem dX2_product_8 : decode cX2_product 8 = .ok (.invokevirtual 36, 3) := by decide +kernel
theorem dX2_product_11 : decode cX2_product 11 = .ok (.astore 4, 2) := by decide +kernel
theorem dX2_product_13 : decode cX2_product 13 = .ok (.aload_n 3, 1) := by decide +kernel
theorem dX2_product_14 : decode cX2_product 14 = .ok (.invokestatic 51, 3) := by decide +kernel
theorem dX2_product_17 : decode cX2_product 17 = .ok (.aload 4, 2) := by decide +kernel
theorem dX2_product_19 : decode cX2_product 19 = .ok (.invokestatic 51, 3) := by decide +kernel
theorem dX2_product_22 : decode cX2_product 22 = .ok (.iadd, 1) := by decide +kernel
theorem dX2_product_23 : decode cX2_product 23 = .ok (.bipush 8, 2) := by decide +kernel
theorem dX2_product_25 : decode cX2_product 25 = .ok (.if_icmp .le 13, 3) := by decide +kernel
theorem dX2_product_28 : decode cX2_product 28 = .ok (.new 44, 3) := by decide +kernel
theorem dX2_product_31 : decode cX2_product 31 = .ok (.dup, 1) := by decide +kernel
theorem dX2_product_32 : decode cX2_product 32 = .ok (.ldc 67, 2) := by decide +kernel
theorem dX2_product_34 : decode cX2_product 34 = .ok (.invokespecial 48, 3) := by decide +kernel
theorem dX2_product_37 : decode cX2_product 37 = .ok (.athrow, 1) := by decide +kernel
theorem dX2_product_38 : decode cX2_product 38 = .ok (.aload_n 3, 1) := by decide +kernel
theorem dX2_product_39 : decode cX2_product 39 = .ok (.aload 4, 2) := by decide +kernel
theorem dX2_product_41 : decode cX2_product 41 = .ok (.aload_n 0, 1) := by decide +kernel
theorem dX2_product_42 : decode cX2_product 42 = .ok (.invokevirtual 32, 3) := by decide +kernel
theorem dX2_product_45 : decode cX2_product 45 = .ok (.invokestatic 69, 3) := by decide +kernel
theorem dX2_product_48 : decode cX2_product 48 = .ok (.aload_n 0, 1) := by decide +kernel
theorem dX2_product_49 : decode cX2_product 49 = .ok (.getfield 14, 3) := by decide +kernel
theorem dX2_product_52 : decode cX2_product 52 = .ok (.iconst 1, 1) := by decide +kernel
theorem dX2_product_53 : decode cX2_product 53 = .ok (.isub, 1) := by decide +kernel
theorem dX2_product_54 : decode cX2_product 54 = .ok (.ireturn, 1) := by decide +kernel
theorem dX2_chain_0 : decode cX2_chain 0 = .ok (.aload_n 0, 1) := by decide +kernel
theorem dX2_chain_1 : decode cX2_chain 1 = .ok (.iload_n 1, 1) := by decide +kernel
theorem dX2_chain_2 : decode cX2_chain 2 = .ok (.invokevirtual 36, 3) := by decide +kernel
theorem dX2_chain_5 : decode cX2_chain 5 = .ok (.astore_n 3, 1) := by decide +kernel
theorem dX2_chain_6 : decode cX2_chain 6 = .ok (.aload_n 0, 1) := by decide +kernel
theorem dX2_chain_7 : decode cX2_chain 7 = .ok (.iload_n 2, 1) := by decide +kernel
theorem dX2_chain_8 : decode cX2_chain 8 = .ok (.invokevirtual 36, 3) := by decide +kernel
theorem dX2_chain_11 : decode cX2_chain 11 = .ok (.astore 4, 2) := by decide +kernel
theorem dX2_chain_13 : decode cX2_chain 13 = .ok (.aload_n 3, 1) := by decide +kernel
theorem dX2_chain_14 : decode cX2_chain 14 = .ok (.invokestatic 51, 3) := by decide +kernel
theorem dX2_chain_17 : decode cX2_chain 17 = .ok (.aload 4, 2) := by decide +kernel
theorem dX2_chain_19 : decode cX2_chain 19 = .ok (.invokestatic 51, 3) := by decide +kernel
theorem dX2_chain_22 : decode cX2_chain 22 = .ok (.imul, 1) := by decide +kernel
theorem dX2_chain_23 : decode cX2_chain 23 = .ok (.bipush 8, 2) := by decide +kernel
theorem dX2_chain_25 : decode cX2_chain 25 = .ok (.if_icmp .le 13, 3) := by decide +kernel
theorem dX2_chain_28 : decode cX2_chain 28 = .ok (.new 44, 3) := by decide +kernel
theorem dX2_chain_31 : decode cX2_chain 31 = .ok (.dup, 1) := by decide +kernel
theorem dX2_chain_32 : decode cX2_chain 32 = .ok (.ldc 73, 2) := by decide +kernel
theorem dX2_chain_34 : decode cX2_chain 34 = .ok (.invokespecial 48, 3) := by decide +kernel
theorem dX2_chain_37 : decode cX2_chain 37 = .ok (.athrow, 1) := by decide +kernel
theorem dX2_chain_38 : decode cX2_chain 38 = .ok (.aload_n 0, 1) := by decide +kernel
theorem dX2_chain_39 : decode cX2_chain 39 = .ok (.invokevirtual 32, 3) := by decide +kernel
theorem dX2_chain_42 : decode cX2_chain 42 = .ok (.astore 5, 2) := by decide +kernel
theorem dX2_chain_44 : decode cX2_chain 44 = .ok (.aload_n 3, 1) := by decide +kernel
theorem dX2_chain_45 : decode cX2_chain 45 = .ok (.invokestatic 51, 3) := by decide +kernel
theorem dX2_chain_48 : decode cX2_chain 48 = .ok (.istore 6, 2) := by decide +kernel
theorem dX2_chain_50 : decode cX2_chain 50 = .ok (.iload 6, 2) := by decide +kernel
theorem dX2_chain_52 : decode cX2_chain 52 = .ok (.ifCond .lt 40, 3) := by decide +kernel
theorem dX2_chain_55 : decode cX2_chain 55 = .ok (.aload 5, 2) := by decide +kernel
theorem dX2_chain_57 : decode cX2_chain 57 = .ok (.aload 4, 2) := by decide +kernel
theorem dX2_chain_59 : decode cX2_chain 59 = .ok (.aload_n 0, 1) := by decide +kernel
theorem dX2_chain_60 : decode cX2_chain 60 = .ok (.getfield 18, 3) := by decide +kernel
theorem dX2_chain_63 : decode cX2_chain 63 = .ok (.invokestatic 69, 3) := by decide +kernel
theorem dX2_chain_66 : decode cX2_chain 66 = .ok (.aload_n 0, 1) := by decide +kernel
theorem dX2_chain_67 : decode cX2_chain 67 = .ok (.getfield 18, 3) := by decide +kernel
theorem dX2_chain_70 : decode cX2_chain 70 = .ok (.aload 5, 2) := by decide +kernel
theorem dX2_chain_72 : decode cX2_chain 72 = .ok (.invokestatic 57, 3) := by decide +kernel
theorem dX2_chain_75 : decode cX2_chain 75 = .ok (.aload 5, 2) := by decide +kernel
theorem dX2_chain_77 : decode cX2_chain 77 = .ok (.iconst 0, 1) := by decide +kernel
theorem dX2_chain_78 : decode cX2_chain 78 = .ok (.dup2, 1) := by decide +kernel
theorem dX2_chain_79 : decode cX2_chain 79 = .ok (.iaload, 1) := by decide +kernel
theorem dX2_chain_80 : decode cX2_chain 80 = .ok (.aload_n 3, 1) := by decide +kernel
theorem dX2_chain_81 : decode cX2_chain 81 = .ok (.iload 6, 2) := by decide +kernel
theorem dX2_chain_83 : decode cX2_chain 83 = .ok (.iaload, 1) := by decide +kernel
theorem dX2_chain_84 : decode cX2_chain 84 = .ok (.iadd, 1) := by decide +kernel
theorem dX2_chain_85 : decode cX2_chain 85 = .ok (.iastore, 1) := by decide +kernel
theorem dX2_chain_86 : decode cX2_chain 86 = .ok (.iinc 6 (-1), 3) := by decide +kernel
theorem dX2_chain_89 : decode cX2_chain 89 = .ok (.goto (-39), 3) := by decide +kernel
theorem dX2_chain_92 : decode cX2_chain 92 = .ok (.aload_n 0, 1) := by decide +kernel
theorem dX2_chain_93 : decode cX2_chain 93 = .ok (.getfield 14, 3) := by decide +kernel
theorem dX2_chain_96 : decode cX2_chain 96 = .ok (.iconst 1, 1) := by decide +kernel
theorem dX2_chain_97 : decode cX2_chain 97 = .ok (.isub, 1) := by decide +kernel
theorem dX2_chain_98 : decode cX2_chain 98 = .ok (.ireturn, 1) := by decide +kernel
theorem dX2_derive_0 : decode cX2_derive 0 = .ok (.aload_n 0, 1) := by decide +kernel
theorem dX2_derive_1 : decode cX2_derive 1 = .ok (.iload_n 1, 1) := by decide +kernel
theorem dX2_derive_2 : decode cX2_derive 2 = .ok (.invokevirtual 36, 3) := by decide +kernel
theorem dX2_derive_5 : decode cX2_derive 5 = .ok (.astore_n 2, 1) := by decide +kernel
theorem dX2_derive_6 : decode cX2_derive 6 = .ok (.aload_n 0, 1) := by decide +kernel
theorem dX2_derive_7 : decode cX2_derive 7 = .ok (.invokevirtual 32, 3) := by decide +kernel
theorem dX2_derive_10 : decode cX2_derive 10 = .ok (.astore_n 3, 1) := by decide +kernel
theorem dX2_derive_11 : decode cX2_derive 11 = .ok (.iconst 1, 1) := by decide +kernel
theorem dX2_derive_12 : decode cX2_derive 12 = .ok (.istore 4, 2) := by decide +kernel
theorem dX2_derive_14 : decode cX2_derive 14 = .ok (.iload 4, 2) := by decide +kernel
theorem dX2_derive_16 : decode cX2_derive 16 = .ok (.bipush 9, 2) := by decide +kernel
theorem dX2_derive_18 : decode cX2_derive 18 = .ok (.if_icmp .ge 22, 3) := by decide +kernel
theorem dX2_derive_21 : decode cX2_derive 21 = .ok (.aload_n 3, 1) := by decide +kernel
theorem dX2_derive_22 : decode cX2_derive 22 = .ok (.iload 4, 2) := by decide +kernel
theorem dX2_derive_24 : decode cX2_derive 24 = .ok (.iconst 1, 1) := by decide +kernel
theorem dX2_derive_25 : decode cX2_derive 25 = .ok (.isub, 1) := by decide +kernel
theorem dX2_derive_26 : decode cX2_derive 26 = .ok (.aload_n 2, 1) := by decide +kernel
theorem dX2_derive_27 : decode cX2_derive 27 = .ok (.iload 4, 2) := by decide +kernel
theorem dX2_derive_29 : decode cX2_derive 29 = .ok (.iaload, 1) := by decide +kernel
theorem dX2_derive_30 : decode cX2_derive 30 = .ok (.iload 4, 2) := by decide +kernel
theorem dX2_derive_32 : decode cX2_derive 32 = .ok (.imul, 1) := by decide +kernel
theorem dX2_derive_33 : decode cX2_derive 33 = .ok (.iastore, 1) := by decide +kernel
theorem dX2_derive_34 : decode cX2_derive 34 = .ok (.iinc 4 1, 3) := by decide +kernel
theorem dX2_derive_37 : decode cX2_derive 37 = .ok (.goto (-23), 3) := by decide +kernel
theorem dX2_derive_40 : decode cX2_derive 40 = .ok (.aload_n 0, 1) := by decide +kernel
theorem dX2_derive_41 : decode cX2_derive 41 = .ok (.getfield 14, 3) := by decide +kernel
theorem dX2_derive_44 : decode cX2_derive 44 = .ok (.iconst 1, 1) := by decide +kernel
theorem dX2_derive_45 : decode cX2_derive 45 = .ok (.isub, 1) := by decide +kernel
theorem dX2_derive_46 : decode cX2_derive 46 = .ok (.ireturn, 1) := by decide +kernel
theorem dX2_divide_0 : decode cX2_divide 0 = .ok (.aload_n 0, 1) := by decide +kernel
theorem dX2_divide_1 : decode cX2_divide 1 = .ok (.iload_n 1, 1) := by decide +kernel
theorem dX2_divide_2 : decode cX2_divide 2 = .ok (.invokevirtual 36, 3) := by decide +kernel
theorem dX2_divide_5 : decode cX2_divide 5 = .ok (.astore_n 3, 1) := by decide +kernel
theorem dX2_divide_6 : decode cX2_divide 6 = .ok (.aload_n 0, 1) := by decide +kernel
theorem dX2_divide_7 : decode cX2_divide 7 = .ok (.iload_n 2, 1) := by decide +kernel
theorem dX2_divide_8 : decode cX2_divide 8 = .ok (.invokevirtual 36, 3) := by decide +kernel
theorem dX2_divide_11 : decode cX2_divide 11 = .ok (.astore 4, 2) := by decide +kernel
theorem dX2_divide_13 : decode cX2_divide 13 = .ok (.aload 4, 2) := by decide +kernel
theorem dX2_divide_15 : decode cX2_divide 15 = .ok (.invokestatic 75, 3) := by decide +kernel
theorem dX2_divide_18 : decode cX2_divide 18 = .ok (.ifCond .ne 13, 3) := by decide +kernel
theorem dX2_divide_21 : decode cX2_divide 21 = .ok (.new 44, 3) := by decide +kernel
theorem dX2_divide_24 : decode cX2_divide 24 = .ok (.dup, 1) := by decide +kernel
theorem dX2_divide_25 : decode cX2_divide 25 = .ok (.ldc 79, 2) := by decide +kernel
theorem dX2_divide_27 : decode cX2_divide 27 = .ok (.invokespecial 48, 3) := by decide +kernel
theorem dX2_divide_30 : decode cX2_divide 30 = .ok (.athrow, 1) := by decide +kernel
theorem dX2_divide_31 : decode cX2_divide 31 = .ok (.aload_n 0, 1) := by decide +kernel
theorem dX2_divide_32 : decode cX2_divide 32 = .ok (.getfield 14, 3) := by decide +kernel
theorem dX2_divide_35 : decode cX2_divide 35 = .ok (.bipush 14, 2) := by decide +kernel
theorem dX2_divide_37 : decode cX2_divide 37 = .ok (.if_icmp .le 13, 3) := by decide +kernel
theorem dX2_divide_40 : decode cX2_divide 40 = .ok (.new 81, 3) := by decide +kernel
theorem dX2_divide_43 : decode cX2_divide 43 = .ok (.dup, 1) := by decide +kernel
theorem dX2_divide_44 : decode cX2_divide 44 = .ok (.ldc 83, 2) := by decide +kernel
theorem dX2_divide_46 : decode cX2_divide 46 = .ok (.invokespecial 85, 3) := by decide +kernel
theorem dX2_divide_49 : decode cX2_divide 49 = .ok (.athrow, 1) := by decide +kernel
theorem dX2_divide_50 : decode cX2_divide 50 = .ok (.aload_n 0, 1) := by decide +kernel
theorem dX2_divide_51 : decode cX2_divide 51 = .ok (.invokevirtual 32, 3) := by decide +kernel
theorem dX2_divide_54 : decode cX2_divide 54 = .ok (.astore 5, 2) := by decide +kernel
theorem dX2_divide_56 : decode cX2_divide 56 = .ok (.aload_n 0, 1) := by decide +kernel
theorem dX2_divide_57 : decode cX2_divide 57 = .ok (.invokevirtual 32, 3) := by decide +kernel
theorem dX2_divide_60 : decode cX2_divide 60 = .ok (.astore 6, 2) := by decide +kernel
theorem dX2_divide_62 : decode cX2_divide 62 = .ok (.aload_n 3, 1) := by decide +kernel
theorem dX2_divide_63 : decode cX2_divide 63 = .ok (.aload 4, 2) := by decide +kernel
theorem dX2_divide_65 : decode cX2_divide 65 = .ok (.aload 5, 2) := by decide +kernel
theorem dX2_divide_67 : decode cX2_divide 67 = .ok (.aload 6, 2) := by decide +kernel
theorem dX2_divide_69 : decode cX2_divide 69 = .ok (.invokestatic 86, 3) := by decide +kernel
theorem dX2_divide_72 : decode cX2_divide 72 = .ok (.aload_n 0, 1) := by decide +kernel
theorem dX2_divide_73 : decode cX2_divide 73 = .ok (.getfield 14, 3) := by decide +kernel
theorem dX2_divide_76 : decode cX2_divide 76 = .ok (.iconst 2, 1) := by decide +kernel
theorem dX2_divide_77 : decode cX2_divide 77 = .ok (.isub, 1) := by decide +kernel
theorem dX2_divide_78 : decode cX2_divide 78 = .ok (.ireturn, 1) := by decide +kernel
theorem dX2_recipes_0 : decode cX2_recipes 0 = .ok (.aload_n 0, 1) := by decide +kernel
theorem dX2_recipes_1 : decode cX2_recipes 1 = .ok (.getfield 14, 3) := by decide +kernel
theorem dX2_recipes_4 : decode cX2_recipes 4 = .ok (.ireturn, 1) := by decide +kernel
theorem dX2_amountOf_0 : decode cX2_amountOf 0 = .ok (.aload_n 0, 1) := by decide +kernel
theorem dX2_amountOf_1 : decode cX2_amountOf 1 = .ok (.iload_n 1, 1) := by decide +kernel
theorem dX2_amountOf_2 : decode cX2_amountOf 2 = .ok (.invokevirtual 36, 3) := by decide +kernel
theorem dX2_amountOf_5 : decode cX2_amountOf 5 = .ok (.astore_n 3, 1) := by decide +kernel
theorem dX2_amountOf_6 : decode cX2_amountOf 6 = .ok (.iload_n 2, 1) := by decide +kernel
theorem dX2_amountOf_7 : decode cX2_amountOf 7 = .ok (.invokestatic 40, 3) := by decide +kernel
theorem dX2_amountOf_10 : decode cX2_amountOf 10 = .ok (.aload_n 3, 1) := by decide +kernel
theorem dX2_amountOf_11 : decode cX2_amountOf 11 = .ok (.iload_n 2, 1) := by decide +kernel
theorem dX2_amountOf_12 : decode cX2_amountOf 12 = .ok (.iaload, 1) := by decide +kernel
theorem dX2_amountOf_13 : decode cX2_amountOf 13 = .ok (.ireturn, 1) := by decide +kernel
theorem dX2_degreeOf_0 : decode cX2_degreeOf 0 = .ok (.aload_n 0, 1) := by decide +kernel
theorem dX2_degreeOf_1 : decode cX2_degreeOf 1 = .ok (.iload_n 1, 1) := by decide +kernel
theorem dX2_degreeOf_2 : decode cX2_degreeOf 2 = .ok (.invokevirtual 36, 3) := by decide +kernel
theorem dX2_degreeOf_5 : decode cX2_degreeOf 5 = .ok (.invokestatic 51, 3) := by decide +kernel
theorem dX2_degreeOf_8 : decode cX2_degreeOf 8 = .ok (.ireturn, 1) := by decide +kernel
theorem dX2_isPlain_0 : decode cX2_isPlain 0 = .ok (.aload_n 0, 1) := by decide +kernel
theorem dX2_isPlain_1 : decode cX2_isPlain 1 = .ok (.iload_n 1, 1) := by decide +kernel
theorem dX2_isPlain_2 : decode cX2_isPlain 2 = .ok (.invokevirtual 36, 3) := by decide +kernel
theorem dX2_isPlain_5 : decode cX2_isPlain 5 = .ok (.invokestatic 75, 3) := by decide +kernel
theorem dX2_isPlain_8 : decode cX2_isPlain 8 = .ok (.ireturn, 1) := by decide +kernel
theorem dX2_content_0 : decode cX2_content 0 = .ok (.aload_n 0, 1) := by decide +kernel
theorem dX2_content_1 : decode cX2_content 1 = .ok (.iload_n 1, 1) := by decide +kernel
theorem dX2_content_2 : decode cX2_content 2 = .ok (.invokevirtual 36, 3) := by decide +kernel
theorem dX2_content_5 : decode cX2_content 5 = .ok (.astore_n 2, 1) := by decide +kernel
theorem dX2_content_6 : decode cX2_content 6 = .ok (.lconst 0, 1) := by decide +kernel
theorem dX2_content_7 : decode cX2_content 7 = .ok (.lstore_n 3, 1) := by decide +kernel
theorem dX2_content_8 : decode cX2_content 8 = .ok (.iconst 0, 1) := by decide +kernel
theorem dX2_content_9 : decode cX2_content 9 = .ok (.istore 5, 2) := by decide +kernel
theorem dX2_content_11 : decode cX2_content 11 = .ok (.iload 5, 2) := by decide +kernel
theorem dX2_content_13 : decode cX2_content 13 = .ok (.bipush 9, 2) := by decide +kernel
theorem dX2_content_15 : decode cX2_content 15 = .ok (.if_icmp .ge 21, 3) := by decide +kernel
theorem dX2_content_18 : decode cX2_content 18 = .ok (.lload_n 3, 1) := by decide +kernel
theorem dX2_content_19 : decode cX2_content 19 = .ok (.aload_n 2, 1) := by decide +kernel
theorem dX2_content_20 : decode cX2_content 20 = .ok (.iload 5, 2) := by decide +kernel
theorem dX2_content_22 : decode cX2_content 22 = .ok (.iaload, 1) := by decide +kernel
theorem dX2_content_23 : decode cX2_content 23 = .ok (.invokestatic 90, 3) := by decide +kernel
theorem dX2_content_26 : decode cX2_content 26 = .ok (.invokestatic 94, 3) := by decide +kernel
theorem dX2_content_29 : decode cX2_content 29 = .ok (.lstore_n 3, 1) := by decide +kernel
theorem dX2_content_30 : decode cX2_content 30 = .ok (.iinc 5 1, 3) := by decide +kernel
theorem dX2_content_33 : decode cX2_content 33 = .ok (.goto (-22), 3) := by decide +kernel
theorem dX2_content_36 : decode cX2_content 36 = .ok (.lload_n 3, 1) := by decide +kernel
theorem dX2_content_37 : decode cX2_content 37 = .ok (.lreturn, 1) := by decide +kernel
theorem dX2_signChanges_0 : decode cX2_signChanges 0 = .ok (.aload_n 0, 1) := by decide +kernel
theorem dX2_signChanges_1 : decode cX2_signChanges 1 = .ok (.iload_n 1, 1) := by decide +kernel
theorem dX2_signChanges_2 : decode cX2_signChanges 2 = .ok (.invokevirtual 36, 3) := by decide +kernel
theorem dX2_signChanges_5 : decode cX2_signChanges 5 = .ok (.astore_n 2, 1) := by decide +kernel
theorem dX2_signChanges_6 : decode cX2_signChanges 6 = .ok (.iconst 0, 1) := by decide +kernel
theorem dX2_signChanges_7 : decode cX2_signChanges 7 = .ok (.istore_n 3, 1) := by decide +kernel
theorem dX2_signChanges_8 : decode cX2_signChanges 8 = .ok (.iconst 0, 1) := by decide +kernel
theorem dX2_signChanges_9 : decode cX2_signChanges 9 = .ok (.istore 4, 2) := by decide +kernel
theorem dX2_signChanges_11 : decode cX2_signChanges 11 = .ok (.iconst 0, 1) := by decide +kernel
theorem dX2_signChanges_12 : decode cX2_signChanges 12 = .ok (.istore 5, 2) := by decide +kernel
theorem dX2_signChanges_14 : decode cX2_signChanges 14 = .ok (.iload 5, 2) := by decide +kernel
theorem dX2_signChanges_16 : decode cX2_signChanges 16 = .ok (.bipush 9, 2) := by decide +kernel
theorem dX2_signChanges_18 : decode cX2_signChanges 18 = .ok (.if_icmp .ge 55, 3) := by decide +kernel
theorem dX2_signChanges_21 : decode cX2_signChanges 21 = .ok (.aload_n 2, 1) := by decide +kernel
theorem dX2_signChanges_22 : decode cX2_signChanges 22 = .ok (.iload 5, 2) := by decide +kernel
theorem dX2_signChanges_24 : decode cX2_signChanges 24 = .ok (.iaload, 1) := by decide +kernel
theorem dX2_signChanges_25 : decode cX2_signChanges 25 = .ok (.istore 6, 2) := by decide +kernel
theorem dX2_signChanges_27 : decode cX2_signChanges 27 = .ok (.iload 6, 2) := by decide +kernel
theorem dX2_signChanges_29 : decode cX2_signChanges 29 = .ok (.ifCond .eq 38, 3) := by decide +kernel
theorem dX2_signChanges_32 : decode cX2_signChanges 32 = .ok (.iload 4, 2) := by decide +kernel
theorem dX2_signChanges_34 : decode cX2_signChanges 34 = .ok (.ifCond .eq 29, 3) := by decide +kernel
theorem dX2_signChanges_37 : decode cX2_signChanges 37 = .ok (.iload 4, 2) := by decide +kernel
theorem dX2_signChanges_39 : decode cX2_signChanges 39 = .ok (.ifCond .ge 7, 3) := by decide +kernel
theorem dX2_signChanges_42 : decode cX2_signChanges 42 = .ok (.iconst 1, 1) := by decide +kernel
theorem dX2_signChanges_43 : decode cX2_signChanges 43 = .ok (.goto 4, 3) := by decide +kernel
theorem dX2_signChanges_46 : decode cX2_signChanges 46 = .ok (.iconst 0, 1) := by decide +kernel
theorem dX2_signChanges_47 : decode cX2_signChanges 47 = .ok (.iload 6, 2) := by decide +kernel
theorem dX2_signChanges_49 : decode cX2_signChanges 49 = .ok (.ifCond .ge 7, 3) := by decide +kernel
theorem dX2_signChanges_52 : decode cX2_signChanges 52 = .ok (.iconst 1, 1) := by decide +kernel
theorem dX2_signChanges_53 : decode cX2_signChanges 53 = .ok (.goto 4, 3) := by decide +kernel
theorem dX2_signChanges_56 : decode cX2_signChanges 56 = .ok (.iconst 0, 1) := by decide +kernel
theorem dX2_signChanges_57 : decode cX2_signChanges 57 = .ok (.if_icmp .eq 6, 3) := by decide +kernel
theorem dX2_signChanges_60 : decode cX2_signChanges 60 = .ok (.iinc 3 1, 3) := by decide +kernel
theorem dX2_signChanges_63 : decode cX2_signChanges 63 = .ok (.iload 6, 2) := by decide +kernel
theorem dX2_signChanges_65 : decode cX2_signChanges 65 = .ok (.istore 4, 2) := by decide +kernel
theorem dX2_signChanges_67 : decode cX2_signChanges 67 = .ok (.iinc 5 1, 3) := by decide +kernel
theorem dX2_signChanges_70 : decode cX2_signChanges 70 = .ok (.goto (-56), 3) := by decide +kernel
theorem dX2_signChanges_73 : decode cX2_signChanges 73 = .ok (.iload_n 3, 1) := by decide +kernel
theorem dX2_signChanges_74 : decode cX2_signChanges 74 = .ok (.ireturn, 1) := by decide +kernel
theorem dX2_hunger_0 : decode cX2_hunger 0 = .ok (.aload_n 0, 1) := by decide +kernel
theorem dX2_hunger_1 : decode cX2_hunger 1 = .ok (.iload_n 1, 1) := by decide +kernel
theorem dX2_hunger_2 : decode cX2_hunger 2 = .ok (.invokevirtual 36, 3) := by decide +kernel
theorem dX2_hunger_5 : decode cX2_hunger 5 = .ok (.iload_n 2, 1) := by decide +kernel
theorem dX2_hunger_6 : decode cX2_hunger 6 = .ok (.invokestatic 98, 3) := by decide +kernel
theorem dX2_hunger_9 : decode cX2_hunger 9 = .ok (.ireturn, 1) := by decide +kernel
theorem dX2_idleGuests_0 : decode cX2_idleGuests 0 = .ok (.aload_n 0, 1) := by decide +kernel
theorem dX2_idleGuests_1 : decode cX2_idleGuests 1 = .ok (.iload_n 1, 1) := by decide +kernel
theorem dX2_idleGuests_2 : decode cX2_idleGuests 2 = .ok (.invokevirtual 36, 3) := by decide +kernel
theorem dX2_idleGuests_5 : decode cX2_idleGuests 5 = .ok (.astore_n 2, 1) := by decide +kernel
theorem dX2_idleGuests_6 : decode cX2_idleGuests 6 = .ok (.iconst 0, 1) := by decide +kernel
theorem dX2_idleGuests_7 : decode cX2_idleGuests 7 = .ok (.istore_n 3, 1) := by decide +kernel
theorem dX2_idleGuests_8 : decode cX2_idleGuests 8 = .ok (.bipush (-20), 2) := by decide +kernel
theorem dX2_idleGuests_10 : decode cX2_idleGuests 10 = .ok (.istore 4, 2) := by decide +kernel
theorem dX2_idleGuests_12 : decode cX2_idleGuests 12 = .ok (.iload 4, 2) := by decide +kernel
theorem dX2_idleGuests_14 : decode cX2_idleGuests 14 = .ok (.bipush 20, 2) := by decide +kernel
theorem dX2_idleGuests_16 : decode cX2_idleGuests 16 = .ok (.if_icmp .gt 21, 3) := by decide +kernel
theorem dX2_idleGuests_19 : decode cX2_idleGuests 19 = .ok (.aload_n 2, 1) := by decide +kernel
theorem dX2_idleGuests_20 : decode cX2_idleGuests 20 = .ok (.iload 4, 2) := by decide +kernel
theorem dX2_idleGuests_22 : decode cX2_idleGuests 22 = .ok (.invokestatic 98, 3) := by decide +kernel
theorem dX2_idleGuests_25 : decode cX2_idleGuests 25 = .ok (.ifCond .ne 6, 3) := by decide +kernel
theorem dX2_idleGuests_28 : decode cX2_idleGuests 28 = .ok (.iinc 3 1, 3) := by decide +kernel
theorem dX2_idleGuests_31 : decode cX2_idleGuests 31 = .ok (.iinc 4 1, 3) := by decide +kernel
theorem dX2_idleGuests_34 : decode cX2_idleGuests 34 = .ok (.goto (-22), 3) := by decide +kernel
theorem dX2_idleGuests_37 : decode cX2_idleGuests 37 = .ok (.iload_n 3, 1) := by decide +kernel
theorem dX2_idleGuests_38 : decode cX2_idleGuests 38 = .ok (.ireturn, 1) := by decide +kernel
theorem dX2_firstIdle_0 : decode cX2_firstIdle 0 = .ok (.aload_n 0, 1) := by decide +kernel
theorem dX2_firstIdle_1 : decode cX2_firstIdle 1 = .ok (.iload_n 1, 1) := by decide +kernel
theorem dX2_firstIdle_2 : decode cX2_firstIdle 2 = .ok (.invokevirtual 36, 3) := by decide +kernel
theorem dX2_firstIdle_5 : decode cX2_firstIdle 5 = .ok (.astore_n 2, 1) := by decide +kernel
theorem dX2_firstIdle_6 : decode cX2_firstIdle 6 = .ok (.bipush (-20), 2) := by decide +kernel
theorem dX2_firstIdle_8 : decode cX2_firstIdle 8 = .ok (.istore_n 3, 1) := by decide +kernel
theorem dX2_firstIdle_9 : decode cX2_firstIdle 9 = .ok (.iload_n 3, 1) := by decide +kernel
theorem dX2_firstIdle_10 : decode cX2_firstIdle 10 = .ok (.bipush 20, 2) := by decide +kernel
theorem dX2_firstIdle_12 : decode cX2_firstIdle 12 = .ok (.if_icmp .gt 19, 3) := by decide +kernel
theorem dX2_firstIdle_15 : decode cX2_firstIdle 15 = .ok (.aload_n 2, 1) := by decide +kernel
theorem dX2_firstIdle_16 : decode cX2_firstIdle 16 = .ok (.iload_n 3, 1) := by decide +kernel
theorem dX2_firstIdle_17 : decode cX2_firstIdle 17 = .ok (.invokestatic 98, 3) := by decide +kernel
theorem dX2_firstIdle_20 : decode cX2_firstIdle 20 = .ok (.ifCond .ne 5, 3) := by decide +kernel
theorem dX2_firstIdle_23 : decode cX2_firstIdle 23 = .ok (.iload_n 3, 1) := by decide +kernel
theorem dX2_firstIdle_24 : decode cX2_firstIdle 24 = .ok (.ireturn, 1) := by decide +kernel
theorem dX2_firstIdle_25 : decode cX2_firstIdle 25 = .ok (.iinc 3 1, 3) := by decide +kernel
theorem dX2_firstIdle_28 : decode cX2_firstIdle 28 = .ok (.goto (-19), 3) := by decide +kernel
theorem dX2_firstIdle_31 : decode cX2_firstIdle 31 = .ok (.bipush 99, 2) := by decide +kernel
theorem dX2_firstIdle_33 : decode cX2_firstIdle 33 = .ok (.ireturn, 1) := by decide +kernel
theorem dX2_agreeAt_0 : decode cX2_agreeAt 0 = .ok (.aload_n 0, 1) := by decide +kernel
theorem dX2_agreeAt_1 : decode cX2_agreeAt 1 = .ok (.iload_n 1, 1) := by decide +kernel
theorem dX2_agreeAt_2 : decode cX2_agreeAt 2 = .ok (.invokevirtual 36, 3) := by decide +kernel
theorem dX2_agreeAt_5 : decode cX2_agreeAt 5 = .ok (.astore_n 3, 1) := by decide +kernel
theorem dX2_agreeAt_6 : decode cX2_agreeAt 6 = .ok (.aload_n 0, 1) := by decide +kernel
theorem dX2_agreeAt_7 : decode cX2_agreeAt 7 = .ok (.iload_n 2, 1) := by decide +kernel
theorem dX2_agreeAt_8 : decode cX2_agreeAt 8 = .ok (.invokevirtual 36, 3) := by decide +kernel
theorem dX2_agreeAt_11 : decode cX2_agreeAt 11 = .ok (.astore 4, 2) := by decide +kernel
theorem dX2_agreeAt_13 : decode cX2_agreeAt 13 = .ok (.bipush (-20), 2) := by decide +kernel
theorem dX2_agreeAt_15 : decode cX2_agreeAt 15 = .ok (.istore 5, 2) := by decide +kernel
theorem dX2_agreeAt_17 : decode cX2_agreeAt 17 = .ok (.iload 5, 2) := by decide +kernel
theorem dX2_agreeAt_19 : decode cX2_agreeAt 19 = .ok (.bipush 20, 2) := by decide +kernel
theorem dX2_agreeAt_21 : decode cX2_agreeAt 21 = .ok (.if_icmp .gt 28, 3) := by decide +kernel
theorem dX2_agreeAt_24 : decode cX2_agreeAt 24 = .ok (.aload_n 3, 1) := by decide +kernel
theorem dX2_agreeAt_25 : decode cX2_agreeAt 25 = .ok (.iload 5, 2) := by decide +kernel
theorem dX2_agreeAt_27 : decode cX2_agreeAt 27 = .ok (.invokestatic 98, 3) := by decide +kernel
theorem dX2_agreeAt_30 : decode cX2_agreeAt 30 = .ok (.aload 4, 2) := by decide +kernel
theorem dX2_agreeAt_32 : decode cX2_agreeAt 32 = .ok (.iload 5, 2) := by decide +kernel
theorem dX2_agreeAt_34 : decode cX2_agreeAt 34 = .ok (.invokestatic 98, 3) := by decide +kernel
theorem dX2_agreeAt_37 : decode cX2_agreeAt 37 = .ok (.if_icmp .ne 6, 3) := by decide +kernel
theorem dX2_agreeAt_40 : decode cX2_agreeAt 40 = .ok (.iload 5, 2) := by decide +kernel
theorem dX2_agreeAt_42 : decode cX2_agreeAt 42 = .ok (.ireturn, 1) := by decide +kernel
theorem dX2_agreeAt_43 : decode cX2_agreeAt 43 = .ok (.iinc 5 1, 3) := by decide +kernel
theorem dX2_agreeAt_46 : decode cX2_agreeAt 46 = .ok (.goto (-29), 3) := by decide +kernel
theorem dX2_agreeAt_49 : decode cX2_agreeAt 49 = .ok (.bipush 99, 2) := by decide +kernel
theorem dX2_agreeAt_51 : decode cX2_agreeAt 51 = .ok (.ireturn, 1) := by decide +kernel
theorem dX2_cheapest_0 : decode cX2_cheapest 0 = .ok (.aload_n 0, 1) := by decide +kernel
theorem dX2_cheapest_1 : decode cX2_cheapest 1 = .ok (.iload_n 1, 1) := by decide +kernel
theorem dX2_cheapest_2 : decode cX2_cheapest 2 = .ok (.invokevirtual 36, 3) := by decide +kernel
theorem dX2_cheapest_5 : decode cX2_cheapest 5 = .ok (.astore_n 2, 1) := by decide +kernel
theorem dX2_cheapest_6 : decode cX2_cheapest 6 = .ok (.iconst 1, 1) := by decide +kernel
theorem dX2_cheapest_7 : decode cX2_cheapest 7 = .ok (.istore_n 3, 1) := by decide +kernel
theorem dX2_cheapest_8 : decode cX2_cheapest 8 = .ok (.aload_n 2, 1) := by decide +kernel
theorem dX2_cheapest_9 : decode cX2_cheapest 9 = .ok (.iload_n 3, 1) := by decide +kernel
theorem dX2_cheapest_10 : decode cX2_cheapest 10 = .ok (.invokestatic 98, 3) := by decide +kernel
theorem dX2_cheapest_13 : decode cX2_cheapest 13 = .ok (.istore 4, 2) := by decide +kernel
theorem dX2_cheapest_15 : decode cX2_cheapest 15 = .ok (.iconst 2, 1) := by decide +kernel
theorem dX2_cheapest_16 : decode cX2_cheapest 16 = .ok (.istore 5, 2) := by decide +kernel
theorem dX2_cheapest_18 : decode cX2_cheapest 18 = .ok (.iload 5, 2) := by decide +kernel
theorem dX2_cheapest_20 : decode cX2_cheapest 20 = .ok (.bipush 20, 2) := by decide +kernel
theorem dX2_cheapest_22 : decode cX2_cheapest 22 = .ok (.if_icmp .gt 31, 3) := by decide +kernel
theorem dX2_cheapest_25 : decode cX2_cheapest 25 = .ok (.aload_n 2, 1) := by decide +kernel
theorem dX2_cheapest_26 : decode cX2_cheapest 26 = .ok (.iload 5, 2) := by decide +kernel
theorem dX2_cheapest_28 : decode cX2_cheapest 28 = .ok (.invokestatic 98, 3) := by decide +kernel
theorem dX2_cheapest_31 : decode cX2_cheapest 31 = .ok (.istore 6, 2) := by decide +kernel
theorem dX2_cheapest_33 : decode cX2_cheapest 33 = .ok (.iload 6, 2) := by decide +kernel
theorem dX2_cheapest_35 : decode cX2_cheapest 35 = .ok (.iload 4, 2) := by decide +kernel
theorem dX2_cheapest_37 : decode cX2_cheapest 37 = .ok (.if_icmp .ge 10, 3) := by decide +kernel
theorem dX2_cheapest_40 : decode cX2_cheapest 40 = .ok (.iload 5, 2) := by decide +kernel
theorem dX2_cheapest_42 : decode cX2_cheapest 42 = .ok (.istore_n 3, 1) := by decide +kernel
theorem dX2_cheapest_43 : decode cX2_cheapest 43 = .ok (.iload 6, 2) := by decide +kernel
theorem dX2_cheapest_45 : decode cX2_cheapest 45 = .ok (.istore 4, 2) := by decide +kernel
theorem dX2_cheapest_47 : decode cX2_cheapest 47 = .ok (.iinc 5 1, 3) := by decide +kernel
theorem dX2_cheapest_50 : decode cX2_cheapest 50 = .ok (.goto (-32), 3) := by decide +kernel
theorem dX2_cheapest_53 : decode cX2_cheapest 53 = .ok (.iload_n 3, 1) := by decide +kernel
theorem dX2_cheapest_54 : decode cX2_cheapest 54 = .ok (.ireturn, 1) := by decide +kernel
theorem dX2_hungerUpTo_0 : decode cX2_hungerUpTo 0 = .ok (.aload_n 0, 1) := by decide +kernel
theorem dX2_hungerUpTo_1 : decode cX2_hungerUpTo 1 = .ok (.iload_n 1, 1) := by decide +kernel
theorem dX2_hungerUpTo_2 : decode cX2_hungerUpTo 2 = .ok (.invokevirtual 36, 3) := by decide +kernel
theorem dX2_hungerUpTo_5 : decode cX2_hungerUpTo 5 = .ok (.astore_n 3, 1) := by decide +kernel
theorem dX2_hungerUpTo_6 : decode cX2_hungerUpTo 6 = .ok (.iload_n 2, 1) := by decide +kernel
theorem dX2_hungerUpTo_7 : decode cX2_hungerUpTo 7 = .ok (.iconst 1, 1) := by decide +kernel
theorem dX2_hungerUpTo_8 : decode cX2_hungerUpTo 8 = .ok (.if_icmp .lt 9, 3) := by decide +kernel
theorem dX2_hungerUpTo_11 : decode cX2_hungerUpTo 11 = .ok (.iload_n 2, 1) := by decide +kernel
theorem dX2_hungerUpTo_12 : decode cX2_hungerUpTo 12 = .ok (.bipush 50, 2) := by decide +kernel
theorem dX2_hungerUpTo_14 : decode cX2_hungerUpTo 14 = .ok (.if_icmp .le 13, 3) := by decide +kernel
theorem dX2_hungerUpTo_17 : decode cX2_hungerUpTo 17 = .ok (.new 44, 3) := by decide +kernel
theorem dX2_hungerUpTo_20 : decode cX2_hungerUpTo 20 = .ok (.dup, 1) := by decide +kernel
theorem dX2_hungerUpTo_21 : decode cX2_hungerUpTo 21 = .ok (.ldc 102, 2) := by decide +kernel
theorem dX2_hungerUpTo_23 : decode cX2_hungerUpTo 23 = .ok (.invokespecial 48, 3) := by decide +kernel
theorem dX2_hungerUpTo_26 : decode cX2_hungerUpTo 26 = .ok (.athrow, 1) := by decide +kernel
theorem dX2_hungerUpTo_27 : decode cX2_hungerUpTo 27 = .ok (.lconst 0, 1) := by decide +kernel
theorem dX2_hungerUpTo_28 : decode cX2_hungerUpTo 28 = .ok (.lstore 4, 2) := by decide +kernel
theorem dX2_hungerUpTo_30 : decode cX2_hungerUpTo 30 = .ok (.iconst 1, 1) := by decide +kernel
theorem dX2_hungerUpTo_31 : decode cX2_hungerUpTo 31 = .ok (.istore 6, 2) := by decide +kernel
theorem dX2_hungerUpTo_33 : decode cX2_hungerUpTo 33 = .ok (.iload 6, 2) := by decide +kernel
theorem dX2_hungerUpTo_35 : decode cX2_hungerUpTo 35 = .ok (.iload_n 2, 1) := by decide +kernel
theorem dX2_hungerUpTo_36 : decode cX2_hungerUpTo 36 = .ok (.if_icmp .gt 21, 3) := by decide +kernel
theorem dX2_hungerUpTo_39 : decode cX2_hungerUpTo 39 = .ok (.lload 4, 2) := by decide +kernel
theorem dX2_hungerUpTo_41 : decode cX2_hungerUpTo 41 = .ok (.aload_n 3, 1) := by decide +kernel
theorem dX2_hungerUpTo_42 : decode cX2_hungerUpTo 42 = .ok (.iload 6, 2) := by decide +kernel
theorem dX2_hungerUpTo_44 : decode cX2_hungerUpTo 44 = .ok (.invokestatic 98, 3) := by decide +kernel
theorem dX2_hungerUpTo_47 : decode cX2_hungerUpTo 47 = .ok (.i2l, 1) := by decide +kernel
theorem dX2_hungerUpTo_48 : decode cX2_hungerUpTo 48 = .ok (.ladd, 1) := by decide +kernel
theorem dX2_hungerUpTo_49 : decode cX2_hungerUpTo 49 = .ok (.lstore 4, 2) := by decide +kernel
theorem dX2_hungerUpTo_51 : decode cX2_hungerUpTo 51 = .ok (.iinc 6 1, 3) := by decide +kernel
theorem dX2_hungerUpTo_54 : decode cX2_hungerUpTo 54 = .ok (.goto (-21), 3) := by decide +kernel
theorem dX2_hungerUpTo_57 : decode cX2_hungerUpTo 57 = .ok (.lload 4, 2) := by decide +kernel
theorem dX2_hungerUpTo_59 : decode cX2_hungerUpTo 59 = .ok (.lreturn, 1) := by decide +kernel
theorem dX2_textLength_0 : decode cX2_textLength 0 = .ok (.aload_n 0, 1) := by decide +kernel
theorem dX2_textLength_1 : decode cX2_textLength 1 = .ok (.getfield 28, 3) := by decide +kernel
theorem dX2_textLength_4 : decode cX2_textLength 4 = .ok (.aload_n 0, 1) := by decide +kernel
theorem dX2_textLength_5 : decode cX2_textLength 5 = .ok (.iload_n 1, 1) := by decide +kernel
theorem dX2_textLength_6 : decode cX2_textLength 6 = .ok (.invokevirtual 36, 3) := by decide +kernel
theorem dX2_textLength_9 : decode cX2_textLength 9 = .ok (.invokevirtual 104, 3) := by decide +kernel
theorem dX2_textLength_12 : decode cX2_textLength 12 = .ok (.aload_n 0, 1) := by decide +kernel
theorem dX2_textLength_13 : decode cX2_textLength 13 = .ok (.getfield 28, 3) := by decide +kernel
theorem dX2_textLength_16 : decode cX2_textLength 16 = .ok (.invokevirtual 108, 3) := by decide +kernel
theorem dX2_textLength_19 : decode cX2_textLength 19 = .ok (.ireturn, 1) := by decide +kernel
theorem dX2_textAt_0 : decode cX2_textAt 0 = .ok (.aload_n 0, 1) := by decide +kernel
theorem dX2_textAt_1 : decode cX2_textAt 1 = .ok (.getfield 28, 3) := by decide +kernel
theorem dX2_textAt_4 : decode cX2_textAt 4 = .ok (.aload_n 0, 1) := by decide +kernel
theorem dX2_textAt_5 : decode cX2_textAt 5 = .ok (.iload_n 1, 1) := by decide +kernel
theorem dX2_textAt_6 : decode cX2_textAt 6 = .ok (.invokevirtual 36, 3) := by decide +kernel
theorem dX2_textAt_9 : decode cX2_textAt 9 = .ok (.invokevirtual 104, 3) := by decide +kernel
theorem dX2_textAt_12 : decode cX2_textAt 12 = .ok (.iload_n 2, 1) := by decide +kernel
theorem dX2_textAt_13 : decode cX2_textAt 13 = .ok (.ifCond .lt 14, 3) := by decide +kernel
theorem dX2_textAt_16 : decode cX2_textAt 16 = .ok (.iload_n 2, 1) := by decide +kernel
theorem dX2_textAt_17 : decode cX2_textAt 17 = .ok (.aload_n 0, 1) := by decide +kernel
theorem dX2_textAt_18 : decode cX2_textAt 18 = .ok (.getfield 28, 3) := by decide +kernel
theorem dX2_textAt_21 : decode cX2_textAt 21 = .ok (.invokevirtual 108, 3) := by decide +kernel
theorem dX2_textAt_24 : decode cX2_textAt 24 = .ok (.if_icmp .lt 13, 3) := by decide +kernel
theorem dX2_textAt_27 : decode cX2_textAt 27 = .ok (.new 112, 3) := by decide +kernel
theorem dX2_textAt_30 : decode cX2_textAt 30 = .ok (.dup, 1) := by decide +kernel
theorem dX2_textAt_31 : decode cX2_textAt 31 = .ok (.ldc 114, 2) := by decide +kernel
theorem dX2_textAt_33 : decode cX2_textAt 33 = .ok (.invokespecial 116, 3) := by decide +kernel
theorem dX2_textAt_36 : decode cX2_textAt 36 = .ok (.athrow, 1) := by decide +kernel
theorem dX2_textAt_37 : decode cX2_textAt 37 = .ok (.aload_n 0, 1) := by decide +kernel
theorem dX2_textAt_38 : decode cX2_textAt 38 = .ok (.getfield 28, 3) := by decide +kernel
theorem dX2_textAt_41 : decode cX2_textAt 41 = .ok (.iload_n 2, 1) := by decide +kernel
theorem dX2_textAt_42 : decode cX2_textAt 42 = .ok (.invokevirtual 117, 3) := by decide +kernel
theorem dX2_textAt_45 : decode cX2_textAt 45 = .ok (.ireturn, 1) := by decide +kernel
theorem dX2_isPartOf_0 : decode cX2_isPartOf 0 = .ok (.aload_n 0, 1) := by decide +kernel
theorem dX2_isPartOf_1 : decode cX2_isPartOf 1 = .ok (.iload_n 1, 1) := by decide +kernel
theorem dX2_isPartOf_2 : decode cX2_isPartOf 2 = .ok (.invokevirtual 36, 3) := by decide +kernel
theorem dX2_isPartOf_5 : decode cX2_isPartOf 5 = .ok (.astore_n 3, 1) := by decide +kernel
theorem dX2_isPartOf_6 : decode cX2_isPartOf 6 = .ok (.aload_n 0, 1) := by decide +kernel
theorem dX2_isPartOf_7 : decode cX2_isPartOf 7 = .ok (.iload_n 2, 1) := by decide +kernel
theorem dX2_isPartOf_8 : decode cX2_isPartOf 8 = .ok (.invokevirtual 36, 3) := by decide +kernel
theorem dX2_isPartOf_11 : decode cX2_isPartOf 11 = .ok (.astore 4, 2) := by decide +kernel
theorem dX2_isPartOf_13 : decode cX2_isPartOf 13 = .ok (.aload 4, 2) := by decide +kernel
theorem dX2_isPartOf_15 : decode cX2_isPartOf 15 = .ok (.invokestatic 75, 3) := by decide +kernel
theorem dX2_isPartOf_18 : decode cX2_isPartOf 18 = .ok (.ifCond .ne 5, 3) := by decide +kernel
theorem dX2_isPartOf_21 : decode cX2_isPartOf 21 = .ok (.iconst 0, 1) := by decide +kernel
theorem dX2_isPartOf_22 : decode cX2_isPartOf 22 = .ok (.ireturn, 1) := by decide +kernel
theorem dX2_isPartOf_23 : decode cX2_isPartOf 23 = .ok (.aload_n 3, 1) := by decide +kernel
theorem dX2_isPartOf_24 : decode cX2_isPartOf 24 = .ok (.aload 4, 2) := by decide +kernel
theorem dX2_isPartOf_26 : decode cX2_isPartOf 26 = .ok (.aload_n 0, 1) := by decide +kernel
theorem dX2_isPartOf_27 : decode cX2_isPartOf 27 = .ok (.getfield 18, 3) := by decide +kernel
theorem dX2_isPartOf_30 : decode cX2_isPartOf 30 = .ok (.aload_n 0, 1) := by decide +kernel
theorem dX2_isPartOf_31 : decode cX2_isPartOf 31 = .ok (.getfield 22, 3) := by decide +kernel
theorem dX2_isPartOf_34 : decode cX2_isPartOf 34 = .ok (.invokestatic 86, 3) := by decide +kernel
theorem dX2_isPartOf_37 : decode cX2_isPartOf 37 = .ok (.aload_n 0, 1) := by decide +kernel
theorem dX2_isPartOf_38 : decode cX2_isPartOf 38 = .ok (.getfield 22, 3) := by decide +kernel
theorem dX2_isPartOf_41 : decode cX2_isPartOf 41 = .ok (.invokestatic 121, 3) := by decide +kernel
theorem dX2_isPartOf_44 : decode cX2_isPartOf 44 = .ok (.ifCond .ne 7, 3) := by decide +kernel
theorem dX2_isPartOf_47 : decode cX2_isPartOf 47 = .ok (.iconst 1, 1) := by decide +kernel
theorem dX2_isPartOf_48 : decode cX2_isPartOf 48 = .ok (.goto 4, 3) := by decide +kernel
theorem dX2_isPartOf_51 : decode cX2_isPartOf 51 = .ok (.iconst 0, 1) := by decide +kernel
theorem dX2_isPartOf_52 : decode cX2_isPartOf 52 = .ok (.ireturn, 1) := by decide +kernel
theorem dX2_plainParts_0 : decode cX2_plainParts 0 = .ok (.aload_n 0, 1) := by decide +kernel
theorem dX2_plainParts_1 : decode cX2_plainParts 1 = .ok (.iload_n 1, 1) := by decide +kernel
theorem dX2_plainParts_2 : decode cX2_plainParts 2 = .ok (.invokevirtual 36, 3) := by decide +kernel
theorem dX2_plainParts_5 : decode cX2_plainParts 5 = .ok (.aload_n 0, 1) := by decide +kernel
theorem dX2_plainParts_6 : decode cX2_plainParts 6 = .ok (.getfield 18, 3) := by decide +kernel
theorem dX2_plainParts_9 : decode cX2_plainParts 9 = .ok (.invokestatic 57, 3) := by decide +kernel
theorem dX2_plainParts_12 : decode cX2_plainParts 12 = .ok (.iconst 0, 1) := by decide +kernel
theorem dX2_plainParts_13 : decode cX2_plainParts 13 = .ok (.istore_n 2, 1) := by decide +kernel
theorem dX2_plainParts_14 : decode cX2_plainParts 14 = .ok (.bipush (-20), 2) := by decide +kernel
theorem dX2_plainParts_16 : decode cX2_plainParts 16 = .ok (.istore_n 3, 1) := by decide +kernel
theorem dX2_plainParts_17 : decode cX2_plainParts 17 = .ok (.iload_n 3, 1) := by decide +kernel
theorem dX2_plainParts_18 : decode cX2_plainParts 18 = .ok (.bipush 20, 2) := by decide +kernel
theorem dX2_plainParts_20 : decode cX2_plainParts 20 = .ok (.if_icmp .gt 44, 3) := by decide +kernel
theorem dX2_plainParts_23 : decode cX2_plainParts 23 = .ok (.iconst 0, 1) := by decide +kernel
theorem dX2_plainParts_24 : decode cX2_plainParts 24 = .ok (.istore 4, 2) := by decide +kernel
theorem dX2_plainParts_26 : decode cX2_plainParts 26 = .ok (.iload 4, 2) := by decide +kernel
theorem dX2_plainParts_28 : decode cX2_plainParts 28 = .ok (.bipush 8, 2) := by decide +kernel
theorem dX2_plainParts_30 : decode cX2_plainParts 30 = .ok (.if_icmp .ge 28, 3) := by decide +kernel
theorem dX2_plainParts_33 : decode cX2_plainParts 33 = .ok (.aload_n 0, 1) := by decide +kernel
theorem dX2_plainParts_34 : decode cX2_plainParts 34 = .ok (.iload_n 3, 1) := by decide +kernel
theorem dX2_plainParts_35 : decode cX2_plainParts 35 = .ok (.invokevirtual 124, 3) := by decide +kernel
theorem dX2_plainParts_38 : decode cX2_plainParts 38 = .ok (.ifCond .eq 20, 3) := by decide +kernel
theorem dX2_plainParts_41 : decode cX2_plainParts 41 = .ok (.aload_n 0, 1) := by decide +kernel
theorem dX2_plainParts_42 : decode cX2_plainParts 42 = .ok (.getfield 18, 3) := by decide +kernel
theorem dX2_plainParts_45 : decode cX2_plainParts 45 = .ok (.iload_n 3, 1) := by decide +kernel
theorem dX2_plainParts_46 : decode cX2_plainParts 46 = .ok (.invokestatic 128, 3) := by decide +kernel
theorem dX2_plainParts_49 : decode cX2_plainParts 49 = .ok (.iinc 2 1, 3) := by decide +kernel
theorem dX2_plainParts_52 : decode cX2_plainParts 52 = .ok (.iinc 4 1, 3) := by decide +kernel
theorem dX2_plainParts_55 : decode cX2_plainParts 55 = .ok (.goto (-29), 3) := by decide +kernel
theorem dX2_plainParts_58 : decode cX2_plainParts 58 = .ok (.iinc 3 1, 3) := by decide +kernel
theorem dX2_plainParts_61 : decode cX2_plainParts 61 = .ok (.goto (-44), 3) := by decide +kernel
theorem dX2_plainParts_64 : decode cX2_plainParts 64 = .ok (.iload_n 2, 1) := by decide +kernel
theorem dX2_plainParts_65 : decode cX2_plainParts 65 = .ok (.ireturn, 1) := by decide +kernel
theorem dX2_bestShift_0 : decode cX2_bestShift 0 = .ok (.aload_n 0, 1) := by decide +kernel
theorem dX2_bestShift_1 : decode cX2_bestShift 1 = .ok (.iload_n 1, 1) := by decide +kernel
theorem dX2_bestShift_2 : decode cX2_bestShift 2 = .ok (.invokevirtual 36, 3) := by decide +kernel
theorem dX2_bestShift_5 : decode cX2_bestShift 5 = .ok (.astore_n 2, 1) := by decide +kernel
theorem dX2_bestShift_6 : decode cX2_bestShift 6 = .ok (.iconst 0, 1) := by decide +kernel
theorem dX2_bestShift_7 : decode cX2_bestShift 7 = .ok (.istore_n 3, 1) := by decide +kernel
theorem dX2_bestShift_8 : decode cX2_bestShift 8 = .ok (.aload_n 2, 1) := by decide +kernel
theorem dX2_bestShift_9 : decode cX2_bestShift 9 = .ok (.invokestatic 121, 3) := by decide +kernel
theorem dX2_bestShift_12 : decode cX2_bestShift 12 = .ok (.istore 4, 2) := by decide +kernel
theorem dX2_bestShift_14 : decode cX2_bestShift 14 = .ok (.iconst 1, 1) := by decide +kernel
theorem dX2_bestShift_15 : decode cX2_bestShift 15 = .ok (.istore 5, 2) := by decide +kernel
theorem dX2_bestShift_17 : decode cX2_bestShift 17 = .ok (.iload 5, 2) := by decide +kernel
theorem dX2_bestShift_19 : decode cX2_bestShift 19 = .ok (.bipush 20, 2) := by decide +kernel
theorem dX2_bestShift_21 : decode cX2_bestShift 21 = .ok (.if_icmp .gt 53, 3) := by decide +kernel
theorem dX2_bestShift_24 : decode cX2_bestShift 24 = .ok (.iconst 1, 1) := by decide +kernel
theorem dX2_bestShift_25 : decode cX2_bestShift 25 = .ok (.istore 6, 2) := by decide +kernel
theorem dX2_bestShift_27 : decode cX2_bestShift 27 = .ok (.iload 6, 2) := by decide +kernel
theorem dX2_bestShift_29 : decode cX2_bestShift 29 = .ok (.iconst (-1), 1) := by decide +kernel
theorem dX2_bestShift_30 : decode cX2_bestShift 30 = .ok (.if_icmp .lt 38, 3) := by decide +kernel
theorem dX2_bestShift_33 : decode cX2_bestShift 33 = .ok (.aload_n 0, 1) := by decide +kernel
theorem dX2_bestShift_34 : decode cX2_bestShift 34 = .ok (.aload_n 2, 1) := by decide +kernel
theorem dX2_bestShift_35 : decode cX2_bestShift 35 = .ok (.iload 6, 2) := by decide +kernel
theorem dX2_bestShift_37 : decode cX2_bestShift 37 = .ok (.iload 5, 2) := by decide +kernel
theorem dX2_bestShift_39 : decode cX2_bestShift 39 = .ok (.imul, 1) := by decide +kernel
theorem dX2_bestShift_40 : decode cX2_bestShift 40 = .ok (.invokevirtual 131, 3) := by decide +kernel
theorem dX2_bestShift_43 : decode cX2_bestShift 43 = .ok (.istore 7, 2) := by decide +kernel
theorem dX2_bestShift_45 : decode cX2_bestShift 45 = .ok (.iload 7, 2) := by decide +kernel
theorem dX2_bestShift_47 : decode cX2_bestShift 47 = .ok (.iload 4, 2) := by decide +kernel
theorem dX2_bestShift_49 : decode cX2_bestShift 49 = .ok (.if_icmp .ge 13, 3) := by decide +kernel
theorem dX2_bestShift_52 : decode cX2_bestShift 52 = .ok (.iload 6, 2) := by decide +kernel
theorem dX2_bestShift_54 : decode cX2_bestShift 54 = .ok (.iload 5, 2) := by decide +kernel
theorem dX2_bestShift_56 : decode cX2_bestShift 56 = .ok (.imul, 1) := by decide +kernel
theorem dX2_bestShift_57 : decode cX2_bestShift 57 = .ok (.istore_n 3, 1) := by decide +kernel
theorem dX2_bestShift_58 : decode cX2_bestShift 58 = .ok (.iload 7, 2) := by decide +kernel
theorem dX2_bestShift_60 : decode cX2_bestShift 60 = .ok (.istore 4, 2) := by decide +kernel
theorem dX2_bestShift_62 : decode cX2_bestShift 62 = .ok (.iinc 6 (-2), 3) := by decide +kernel
theorem dX2_bestShift_65 : decode cX2_bestShift 65 = .ok (.goto (-38), 3) := by decide +kernel
theorem dX2_bestShift_68 : decode cX2_bestShift 68 = .ok (.iinc 5 1, 3) := by decide +kernel
theorem dX2_bestShift_71 : decode cX2_bestShift 71 = .ok (.goto (-54), 3) := by decide +kernel
theorem dX2_bestShift_74 : decode cX2_bestShift 74 = .ok (.iload_n 3, 1) := by decide +kernel
theorem dX2_bestShift_75 : decode cX2_bestShift 75 = .ok (.ireturn, 1) := by decide +kernel
theorem dX2_meanDegree_0 : decode cX2_meanDegree 0 = .ok (.aload_n 0, 1) := by decide +kernel
theorem dX2_meanDegree_1 : decode cX2_meanDegree 1 = .ok (.getfield 14, 3) := by decide +kernel
theorem dX2_meanDegree_4 : decode cX2_meanDegree 4 = .ok (.ifCond .gt 5, 3) := by decide +kernel
theorem dX2_meanDegree_7 : decode cX2_meanDegree 7 = .ok (.dconst 0, 1) := by decide +kernel
theorem dX2_meanDegree_8 : decode cX2_meanDegree 8 = .ok (.dreturn, 1) := by decide +kernel
theorem dX2_meanDegree_9 : decode cX2_meanDegree 9 = .ok (.iconst 0, 1) := by decide +kernel
theorem dX2_meanDegree_10 : decode cX2_meanDegree 10 = .ok (.istore_n 1, 1) := by decide +kernel
theorem dX2_meanDegree_11 : decode cX2_meanDegree 11 = .ok (.iconst 0, 1) := by decide +kernel
theorem dX2_meanDegree_12 : decode cX2_meanDegree 12 = .ok (.istore_n 2, 1) := by decide +kernel
theorem dX2_meanDegree_13 : decode cX2_meanDegree 13 = .ok (.iload_n 2, 1) := by decide +kernel
theorem dX2_meanDegree_14 : decode cX2_meanDegree 14 = .ok (.aload_n 0, 1) := by decide +kernel
theorem dX2_meanDegree_15 : decode cX2_meanDegree 15 = .ok (.getfield 14, 3) := by decide +kernel
theorem dX2_meanDegree_18 : decode cX2_meanDegree 18 = .ok (.if_icmp .ge 17, 3) := by decide +kernel
theorem dX2_meanDegree_21 : decode cX2_meanDegree 21 = .ok (.iload_n 1, 1) := by decide +kernel
theorem dX2_meanDegree_22 : decode cX2_meanDegree 22 = .ok (.aload_n 0, 1) := by decide +kernel
theorem dX2_meanDegree_23 : decode cX2_meanDegree 23 = .ok (.iload_n 2, 1) := by decide +kernel
theorem dX2_meanDegree_24 : decode cX2_meanDegree 24 = .ok (.invokevirtual 134, 3) := by decide +kernel
theorem dX2_meanDegree_27 : decode cX2_meanDegree 27 = .ok (.iadd, 1) := by decide +kernel
theorem dX2_meanDegree_28 : decode cX2_meanDegree 28 = .ok (.istore_n 1, 1) := by decide +kernel
theorem dX2_meanDegree_29 : decode cX2_meanDegree 29 = .ok (.iinc 2 1, 3) := by decide +kernel
theorem dX2_meanDegree_32 : decode cX2_meanDegree 32 = .ok (.goto (-19), 3) := by decide +kernel
theorem dX2_meanDegree_35 : decode cX2_meanDegree 35 = .ok (.iload_n 1, 1) := by decide +kernel
theorem dX2_meanDegree_36 : decode cX2_meanDegree 36 = .ok (.i2d, 1) := by decide +kernel
theorem dX2_meanDegree_37 : decode cX2_meanDegree 37 = .ok (.aload_n 0, 1) := by decide +kernel
theorem dX2_meanDegree_38 : decode cX2_meanDegree 38 = .ok (.getfield 14, 3) := by decide +kernel
theorem dX2_meanDegree_41 : decode cX2_meanDegree 41 = .ok (.i2d, 1) := by decide +kernel
theorem dX2_meanDegree_42 : decode cX2_meanDegree 42 = .ok (.ddiv, 1) := by decide +kernel
theorem dX2_meanDegree_43 : decode cX2_meanDegree 43 = .ok (.dreturn, 1) := by decide +kernel
theorem dX2_digest_0 : decode cX2_digest 0 = .ok (.ldc2_w 137, 3) := by decide +kernel
theorem dX2_digest_3 : decode cX2_digest 3 = .ok (.aload_n 0, 1) := by decide +kernel
theorem dX2_digest_4 : decode cX2_digest 4 = .ok (.invokevirtual 139, 3) := by decide +kernel
theorem dX2_digest_7 : decode cX2_digest 7 = .ok (.i2l, 1) := by decide +kernel
theorem dX2_digest_8 : decode cX2_digest 8 = .ok (.ladd, 1) := by decide +kernel
theorem dX2_digest_9 : decode cX2_digest 9 = .ok (.lstore_n 1, 1) := by decide +kernel
theorem dX2_digest_10 : decode cX2_digest 10 = .ok (.iconst 0, 1) := by decide +kernel
theorem dX2_digest_11 : decode cX2_digest 11 = .ok (.istore_n 3, 1) := by decide +kernel
theorem dX2_digest_12 : decode cX2_digest 12 = .ok (.iload_n 3, 1) := by decide +kernel
theorem dX2_digest_13 : decode cX2_digest 13 = .ok (.aload_n 0, 1) := by decide +kernel
theorem dX2_digest_14 : decode cX2_digest 14 = .ok (.getfield 14, 3) := by decide +kernel
theorem dX2_digest_17 : decode cX2_digest 17 = .ok (.if_icmp .ge 191, 3) := by decide +kernel
theorem dX2_digest_20 : decode cX2_digest 20 = .ok (.lload_n 1, 1) := by decide +kernel
theorem dX2_digest_21 : decode cX2_digest 21 = .ok (.ldc2_w 142, 3) := by decide +kernel
theorem dX2_digest_24 : decode cX2_digest 24 = .ok (.lmul, 1) := by decide +kernel
theorem dX2_digest_25 : decode cX2_digest 25 = .ok (.aload_n 0, 1) := by decide +kernel
theorem dX2_digest_26 : decode cX2_digest 26 = .ok (.iload_n 3, 1) := by decide +kernel
theorem dX2_digest_27 : decode cX2_digest 27 = .ok (.invokevirtual 134, 3) := by decide +kernel
theorem dX2_digest_30 : decode cX2_digest 30 = .ok (.i2l, 1) := by decide +kernel
theorem dX2_digest_31 : decode cX2_digest 31 = .ok (.ladd, 1) := by decide +kernel
theorem dX2_digest_32 : decode cX2_digest 32 = .ok (.lstore_n 1, 1) := by decide +kernel
theorem dX2_digest_33 : decode cX2_digest 33 = .ok (.lload_n 1, 1) := by decide +kernel
theorem dX2_digest_34 : decode cX2_digest 34 = .ok (.ldc2_w 142, 3) := by decide +kernel
theorem dX2_digest_37 : decode cX2_digest 37 = .ok (.lmul, 1) := by decide +kernel
theorem dX2_digest_38 : decode cX2_digest 38 = .ok (.aload_n 0, 1) := by decide +kernel
theorem dX2_digest_39 : decode cX2_digest 39 = .ok (.iload_n 3, 1) := by decide +kernel
theorem dX2_digest_40 : decode cX2_digest 40 = .ok (.invokevirtual 144, 3) := by decide +kernel
theorem dX2_digest_43 : decode cX2_digest 43 = .ok (.ifCond .eq 7, 3) := by decide +kernel
theorem dX2_digest_46 : decode cX2_digest 46 = .ok (.iconst 1, 1) := by decide +kernel
theorem dX2_digest_47 : decode cX2_digest 47 = .ok (.goto 4, 3) := by decide +kernel
theorem dX2_digest_50 : decode cX2_digest 50 = .ok (.iconst 0, 1) := by decide +kernel
theorem dX2_digest_51 : decode cX2_digest 51 = .ok (.i2l, 1) := by decide +kernel
theorem dX2_digest_52 : decode cX2_digest 52 = .ok (.ladd, 1) := by decide +kernel
theorem dX2_digest_53 : decode cX2_digest 53 = .ok (.lstore_n 1, 1) := by decide +kernel
theorem dX2_digest_54 : decode cX2_digest 54 = .ok (.lload_n 1, 1) := by decide +kernel
theorem dX2_digest_55 : decode cX2_digest 55 = .ok (.ldc2_w 142, 3) := by decide +kernel
theorem dX2_digest_58 : decode cX2_digest 58 = .ok (.lmul, 1) := by decide +kernel
theorem dX2_digest_59 : decode cX2_digest 59 = .ok (.aload_n 0, 1) := by decide +kernel
theorem dX2_digest_60 : decode cX2_digest 60 = .ok (.iload_n 3, 1) := by decide +kernel
theorem dX2_digest_61 : decode cX2_digest 61 = .ok (.invokevirtual 147, 3) := by decide +kernel
theorem dX2_digest_64 : decode cX2_digest 64 = .ok (.ladd, 1) := by decide +kernel
theorem dX2_digest_65 : decode cX2_digest 65 = .ok (.lstore_n 1, 1) := by decide +kernel
theorem dX2_digest_66 : decode cX2_digest 66 = .ok (.lload_n 1, 1) := by decide +kernel
theorem dX2_digest_67 : decode cX2_digest 67 = .ok (.ldc2_w 142, 3) := by decide +kernel
theorem dX2_digest_70 : decode cX2_digest 70 = .ok (.lmul, 1) := by decide +kernel
theorem dX2_digest_71 : decode cX2_digest 71 = .ok (.aload_n 0, 1) := by decide +kernel
theorem dX2_digest_72 : decode cX2_digest 72 = .ok (.iload_n 3, 1) := by decide +kernel
theorem dX2_digest_73 : decode cX2_digest 73 = .ok (.invokevirtual 150, 3) := by decide +kernel
theorem dX2_digest_76 : decode cX2_digest 76 = .ok (.i2l, 1) := by decide +kernel
theorem dX2_digest_77 : decode cX2_digest 77 = .ok (.ladd, 1) := by decide +kernel
theorem dX2_digest_78 : decode cX2_digest 78 = .ok (.lstore_n 1, 1) := by decide +kernel
theorem dX2_digest_79 : decode cX2_digest 79 = .ok (.lload_n 1, 1) := by decide +kernel
theorem dX2_digest_80 : decode cX2_digest 80 = .ok (.ldc2_w 142, 3) := by decide +kernel
theorem dX2_digest_83 : decode cX2_digest 83 = .ok (.lmul, 1) := by decide +kernel
theorem dX2_digest_84 : decode cX2_digest 84 = .ok (.aload_n 0, 1) := by decide +kernel
theorem dX2_digest_85 : decode cX2_digest 85 = .ok (.iload_n 3, 1) := by decide +kernel
theorem dX2_digest_86 : decode cX2_digest 86 = .ok (.iconst 3, 1) := by decide +kernel
theorem dX2_digest_87 : decode cX2_digest 87 = .ok (.invokevirtual 153, 3) := by decide +kernel
theorem dX2_digest_90 : decode cX2_digest 90 = .ok (.i2l, 1) := by decide +kernel
theorem dX2_digest_91 : decode cX2_digest 91 = .ok (.ladd, 1) := by decide +kernel
theorem dX2_digest_92 : decode cX2_digest 92 = .ok (.lstore_n 1, 1) := by decide +kernel
theorem dX2_digest_93 : decode cX2_digest 93 = .ok (.lload_n 1, 1) := by decide +kernel
theorem dX2_digest_94 : decode cX2_digest 94 = .ok (.ldc2_w 142, 3) := by decide +kernel
theorem dX2_digest_97 : decode cX2_digest 97 = .ok (.lmul, 1) := by decide +kernel
theorem dX2_digest_98 : decode cX2_digest 98 = .ok (.aload_n 0, 1) := by decide +kernel
theorem dX2_digest_99 : decode cX2_digest 99 = .ok (.iload_n 3, 1) := by decide +kernel
theorem dX2_digest_100 : decode cX2_digest 100 = .ok (.invokevirtual 157, 3) := by decide +kernel
theorem dX2_digest_103 : decode cX2_digest 103 = .ok (.i2l, 1) := by decide +kernel
theorem dX2_digest_104 : decode cX2_digest 104 = .ok (.ladd, 1) := by decide +kernel
theorem dX2_digest_105 : decode cX2_digest 105 = .ok (.lstore_n 1, 1) := by decide +kernel
theorem dX2_digest_106 : decode cX2_digest 106 = .ok (.lload_n 1, 1) := by decide +kernel
theorem dX2_digest_107 : decode cX2_digest 107 = .ok (.ldc2_w 142, 3) := by decide +kernel
theorem dX2_digest_110 : decode cX2_digest 110 = .ok (.lmul, 1) := by decide +kernel
theorem dX2_digest_111 : decode cX2_digest 111 = .ok (.aload_n 0, 1) := by decide +kernel
theorem dX2_digest_112 : decode cX2_digest 112 = .ok (.iload_n 3, 1) := by decide +kernel
theorem dX2_digest_113 : decode cX2_digest 113 = .ok (.invokevirtual 160, 3) := by decide +kernel
theorem dX2_digest_116 : decode cX2_digest 116 = .ok (.i2l, 1) := by decide +kernel
theorem dX2_digest_117 : decode cX2_digest 117 = .ok (.ladd, 1) := by decide +kernel
theorem dX2_digest_118 : decode cX2_digest 118 = .ok (.lstore_n 1, 1) := by decide +kernel
theorem dX2_digest_119 : decode cX2_digest 119 = .ok (.lload_n 1, 1) := by decide +kernel
theorem dX2_digest_120 : decode cX2_digest 120 = .ok (.ldc2_w 142, 3) := by decide +kernel
theorem dX2_digest_123 : decode cX2_digest 123 = .ok (.lmul, 1) := by decide +kernel
theorem dX2_digest_124 : decode cX2_digest 124 = .ok (.aload_n 0, 1) := by decide +kernel
theorem dX2_digest_125 : decode cX2_digest 125 = .ok (.iload_n 3, 1) := by decide +kernel
theorem dX2_digest_126 : decode cX2_digest 126 = .ok (.invokevirtual 163, 3) := by decide +kernel
theorem dX2_digest_129 : decode cX2_digest 129 = .ok (.i2l, 1) := by decide +kernel
theorem dX2_digest_130 : decode cX2_digest 130 = .ok (.ladd, 1) := by decide +kernel
theorem dX2_digest_131 : decode cX2_digest 131 = .ok (.lstore_n 1, 1) := by decide +kernel
theorem dX2_digest_132 : decode cX2_digest 132 = .ok (.lload_n 1, 1) := by decide +kernel
theorem dX2_digest_133 : decode cX2_digest 133 = .ok (.ldc2_w 142, 3) := by decide +kernel
theorem dX2_digest_136 : decode cX2_digest 136 = .ok (.lmul, 1) := by decide +kernel
theorem dX2_digest_137 : decode cX2_digest 137 = .ok (.aload_n 0, 1) := by decide +kernel
theorem dX2_digest_138 : decode cX2_digest 138 = .ok (.iload_n 3, 1) := by decide +kernel
theorem dX2_digest_139 : decode cX2_digest 139 = .ok (.invokevirtual 166, 3) := by decide +kernel
theorem dX2_digest_142 : decode cX2_digest 142 = .ok (.i2l, 1) := by decide +kernel
theorem dX2_digest_143 : decode cX2_digest 143 = .ok (.ladd, 1) := by decide +kernel
theorem dX2_digest_144 : decode cX2_digest 144 = .ok (.lstore_n 1, 1) := by decide +kernel
theorem dX2_digest_145 : decode cX2_digest 145 = .ok (.lload_n 1, 1) := by decide +kernel
theorem dX2_digest_146 : decode cX2_digest 146 = .ok (.ldc2_w 142, 3) := by decide +kernel
theorem dX2_digest_149 : decode cX2_digest 149 = .ok (.lmul, 1) := by decide +kernel
theorem dX2_digest_150 : decode cX2_digest 150 = .ok (.aload_n 0, 1) := by decide +kernel
theorem dX2_digest_151 : decode cX2_digest 151 = .ok (.iload_n 3, 1) := by decide +kernel
theorem dX2_digest_152 : decode cX2_digest 152 = .ok (.invokevirtual 169, 3) := by decide +kernel
theorem dX2_digest_155 : decode cX2_digest 155 = .ok (.i2l, 1) := by decide +kernel
theorem dX2_digest_156 : decode cX2_digest 156 = .ok (.ladd, 1) := by decide +kernel
theorem dX2_digest_157 : decode cX2_digest 157 = .ok (.lstore_n 1, 1) := by decide +kernel
theorem dX2_digest_158 : decode cX2_digest 158 = .ok (.lload_n 1, 1) := by decide +kernel
theorem dX2_digest_159 : decode cX2_digest 159 = .ok (.ldc2_w 142, 3) := by decide +kernel
theorem dX2_digest_162 : decode cX2_digest 162 = .ok (.lmul, 1) := by decide +kernel
theorem dX2_digest_163 : decode cX2_digest 163 = .ok (.aload_n 0, 1) := by decide +kernel
theorem dX2_digest_164 : decode cX2_digest 164 = .ok (.iload_n 3, 1) := by decide +kernel
theorem dX2_digest_165 : decode cX2_digest 165 = .ok (.invokevirtual 172, 3) := by decide +kernel
theorem dX2_digest_168 : decode cX2_digest 168 = .ok (.i2l, 1) := by decide +kernel
theorem dX2_digest_169 : decode cX2_digest 169 = .ok (.ladd, 1) := by decide +kernel
theorem dX2_digest_170 : decode cX2_digest 170 = .ok (.lstore_n 1, 1) := by decide +kernel
theorem dX2_digest_171 : decode cX2_digest 171 = .ok (.iconst 0, 1) := by decide +kernel
theorem dX2_digest_172 : decode cX2_digest 172 = .ok (.istore 4, 2) := by decide +kernel
theorem dX2_digest_174 : decode cX2_digest 174 = .ok (.iload 4, 2) := by decide +kernel
theorem dX2_digest_176 : decode cX2_digest 176 = .ok (.bipush 9, 2) := by decide +kernel
theorem dX2_digest_178 : decode cX2_digest 178 = .ok (.if_icmp .ge 24, 3) := by decide +kernel
theorem dX2_digest_181 : decode cX2_digest 181 = .ok (.lload_n 1, 1) := by decide +kernel
theorem dX2_digest_182 : decode cX2_digest 182 = .ok (.ldc2_w 142, 3) := by decide +kernel
theorem dX2_digest_185 : decode cX2_digest 185 = .ok (.lmul, 1) := by decide +kernel
theorem dX2_digest_186 : decode cX2_digest 186 = .ok (.aload_n 0, 1) := by decide +kernel
theorem dX2_digest_187 : decode cX2_digest 187 = .ok (.iload_n 3, 1) := by decide +kernel
theorem dX2_digest_188 : decode cX2_digest 188 = .ok (.iload 4, 2) := by decide +kernel
theorem dX2_digest_190 : decode cX2_digest 190 = .ok (.invokevirtual 175, 3) := by decide +kernel
theorem dX2_digest_193 : decode cX2_digest 193 = .ok (.i2l, 1) := by decide +kernel
theorem dX2_digest_194 : decode cX2_digest 194 = .ok (.ladd, 1) := by decide +kernel
theorem dX2_digest_195 : decode cX2_digest 195 = .ok (.lstore_n 1, 1) := by decide +kernel
theorem dX2_digest_196 : decode cX2_digest 196 = .ok (.iinc 4 1, 3) := by decide +kernel
theorem dX2_digest_199 : decode cX2_digest 199 = .ok (.goto (-25), 3) := by decide +kernel
theorem dX2_digest_202 : decode cX2_digest 202 = .ok (.iinc 3 1, 3) := by decide +kernel
theorem dX2_digest_205 : decode cX2_digest 205 = .ok (.goto (-193), 3) := by decide +kernel
theorem dX2_digest_208 : decode cX2_digest 208 = .ok (.lload_n 1, 1) := by decide +kernel
theorem dX2_digest_209 : decode cX2_digest 209 = .ok (.lreturn, 1) := by decide +kernel
theorem dX2_rowOf_0 : decode cX2_rowOf 0 = .ok (.iload_n 1, 1) := by decide +kernel
theorem dX2_rowOf_1 : decode cX2_rowOf 1 = .ok (.ifCond .lt 11, 3) := by decide +kernel
theorem dX2_rowOf_4 : decode cX2_rowOf 4 = .ok (.iload_n 1, 1) := by decide +kernel
theorem dX2_rowOf_5 : decode cX2_rowOf 5 = .ok (.aload_n 0, 1) := by decide +kernel
theorem dX2_rowOf_6 : decode cX2_rowOf 6 = .ok (.getfield 14, 3) := by decide +kernel
theorem dX2_rowOf_9 : decode cX2_rowOf 9 = .ok (.if_icmp .lt 13, 3) := by decide +kernel
theorem dX2_rowOf_12 : decode cX2_rowOf 12 = .ok (.new 112, 3) := by decide +kernel
theorem dX2_rowOf_15 : decode cX2_rowOf 15 = .ok (.dup, 1) := by decide +kernel
theorem dX2_rowOf_16 : decode cX2_rowOf 16 = .ok (.ldc 178, 2) := by decide +kernel
theorem dX2_rowOf_18 : decode cX2_rowOf 18 = .ok (.invokespecial 116, 3) := by decide +kernel
theorem dX2_rowOf_21 : decode cX2_rowOf 21 = .ok (.athrow, 1) := by decide +kernel
theorem dX2_rowOf_22 : decode cX2_rowOf 22 = .ok (.aload_n 0, 1) := by decide +kernel
theorem dX2_rowOf_23 : decode cX2_rowOf 23 = .ok (.getfield 11, 3) := by decide +kernel
theorem dX2_rowOf_26 : decode cX2_rowOf 26 = .ok (.iload_n 1, 1) := by decide +kernel
theorem dX2_rowOf_27 : decode cX2_rowOf 27 = .ok (.aaload, 1) := by decide +kernel
theorem dX2_rowOf_28 : decode cX2_rowOf 28 = .ok (.areturn, 1) := by decide +kernel
theorem dX2_requirePower_0 : decode cX2_requirePower 0 = .ok (.iload_n 0, 1) := by decide +kernel
theorem dX2_requirePower_1 : decode cX2_requirePower 1 = .ok (.ifCond .lt 9, 3) := by decide +kernel
theorem dX2_requirePower_4 : decode cX2_requirePower 4 = .ok (.iload_n 0, 1) := by decide +kernel
theorem dX2_requirePower_5 : decode cX2_requirePower 5 = .ok (.bipush 8, 2) := by decide +kernel
theorem dX2_requirePower_7 : decode cX2_requirePower 7 = .ok (.if_icmp .le 13, 3) := by decide +kernel
theorem dX2_requirePower_10 : decode cX2_requirePower 10 = .ok (.new 112, 3) := by decide +kernel
theorem dX2_requirePower_13 : decode cX2_requirePower 13 = .ok (.dup, 1) := by decide +kernel
theorem dX2_requirePower_14 : decode cX2_requirePower 14 = .ok (.ldc 180, 2) := by decide +kernel
theorem dX2_requirePower_16 : decode cX2_requirePower 16 = .ok (.invokespecial 116, 3) := by decide +kernel
theorem dX2_requirePower_19 : decode cX2_requirePower 19 = .ok (.athrow, 1) := by decide +kernel
theorem dX2_requirePower_20 : decode cX2_requirePower 20 = .ok (.return_, 1) := by decide +kernel
theorem dX2_newRow_0 : decode cX2_newRow 0 = .ok (.aload_n 0, 1) := by decide +kernel
theorem dX2_newRow_1 : decode cX2_newRow 1 = .ok (.getfield 14, 3) := by decide +kernel
theorem dX2_newRow_4 : decode cX2_newRow 4 = .ok (.bipush 16, 2) := by decide +kernel
theorem dX2_newRow_6 : decode cX2_newRow 6 = .ok (.if_icmp .lt 13, 3) := by decide +kernel
theorem dX2_newRow_9 : decode cX2_newRow 9 = .ok (.new 81, 3) := by decide +kernel
theorem dX2_newRow_12 : decode cX2_newRow 12 = .ok (.dup, 1) := by decide +kernel
theorem dX2_newRow_13 : decode cX2_newRow 13 = .ok (.ldc 182, 2) := by decide +kernel
theorem dX2_newRow_15 : decode cX2_newRow 15 = .ok (.invokespecial 85, 3) := by decide +kernel
theorem dX2_newRow_18 : decode cX2_newRow 18 = .ok (.athrow, 1) := by decide +kernel
theorem dX2_newRow_19 : decode cX2_newRow 19 = .ok (.aload_n 0, 1) := by decide +kernel
theorem dX2_newRow_20 : decode cX2_newRow 20 = .ok (.getfield 11, 3) := by decide +kernel
theorem dX2_newRow_23 : decode cX2_newRow 23 = .ok (.aload_n 0, 1) := by decide +kernel
theorem dX2_newRow_24 : decode cX2_newRow 24 = .ok (.getfield 14, 3) := by decide +kernel
theorem dX2_newRow_27 : decode cX2_newRow 27 = .ok (.aaload, 1) := by decide +kernel
theorem dX2_newRow_28 : decode cX2_newRow 28 = .ok (.astore_n 1, 1) := by decide +kernel
theorem dX2_newRow_29 : decode cX2_newRow 29 = .ok (.aload_n 1, 1) := by decide +kernel
theorem dX2_newRow_30 : decode cX2_newRow 30 = .ok (.invokestatic 184, 3) := by decide +kernel
theorem dX2_newRow_33 : decode cX2_newRow 33 = .ok (.aload_n 0, 1) := by decide +kernel
theorem dX2_newRow_34 : decode cX2_newRow 34 = .ok (.dup, 1) := by decide +kernel
theorem dX2_newRow_35 : decode cX2_newRow 35 = .ok (.getfield 14, 3) := by decide +kernel
theorem dX2_newRow_38 : decode cX2_newRow 38 = .ok (.iconst 1, 1) := by decide +kernel
theorem dX2_newRow_39 : decode cX2_newRow 39 = .ok (.iadd, 1) := by decide +kernel
theorem dX2_newRow_40 : decode cX2_newRow 40 = .ok (.putfield 14, 3) := by decide +kernel
theorem dX2_newRow_43 : decode cX2_newRow 43 = .ok (.aload_n 1, 1) := by decide +kernel
theorem dX2_newRow_44 : decode cX2_newRow 44 = .ok (.areturn, 1) := by decide +kernel
theorem dX2_dividesTried_0 : decode cX2_dividesTried 0 = .ok (.aload_n 0, 1) := by decide +kernel
theorem dX2_dividesTried_1 : decode cX2_dividesTried 1 = .ok (.getfield 18, 3) := by decide +kernel
theorem dX2_dividesTried_4 : decode cX2_dividesTried 4 = .ok (.invokestatic 121, 3) := by decide +kernel
theorem dX2_dividesTried_7 : decode cX2_dividesTried 7 = .ok (.ifCond .le 18, 3) := by decide +kernel
theorem dX2_dividesTried_10 : decode cX2_dividesTried 10 = .ok (.aload_n 0, 1) := by decide +kernel
theorem dX2_dividesTried_11 : decode cX2_dividesTried 11 = .ok (.getfield 18, 3) := by decide +kernel
theorem dX2_dividesTried_14 : decode cX2_dividesTried 14 = .ok (.iload_n 1, 1) := by decide +kernel
theorem dX2_dividesTried_15 : decode cX2_dividesTried 15 = .ok (.invokestatic 98, 3) := by decide +kernel
theorem dX2_dividesTried_18 : decode cX2_dividesTried 18 = .ok (.ifCond .ne 7, 3) := by decide +kernel
theorem dX2_dividesTried_21 : decode cX2_dividesTried 21 = .ok (.iconst 1, 1) := by decide +kernel
theorem dX2_dividesTried_22 : decode cX2_dividesTried 22 = .ok (.goto 4, 3) := by decide +kernel
theorem dX2_dividesTried_25 : decode cX2_dividesTried 25 = .ok (.iconst 0, 1) := by decide +kernel
theorem dX2_dividesTried_26 : decode cX2_dividesTried 26 = .ok (.ireturn, 1) := by decide +kernel
theorem dX2_partsWhenMoved_0 : decode cX2_partsWhenMoved 0 = .ok (.aload_n 1, 1) := by decide +kernel
theorem dX2_partsWhenMoved_1 : decode cX2_partsWhenMoved 1 = .ok (.aload_n 0, 1) := by decide +kernel
theorem dX2_partsWhenMoved_2 : decode cX2_partsWhenMoved 2 = .ok (.getfield 18, 3) := by decide +kernel
theorem dX2_partsWhenMoved_5 : decode cX2_partsWhenMoved 5 = .ok (.invokestatic 57, 3) := by decide +kernel
theorem dX2_partsWhenMoved_8 : decode cX2_partsWhenMoved 8 = .ok (.aload_n 0, 1) := by decide +kernel
theorem dX2_partsWhenMoved_9 : decode cX2_partsWhenMoved 9 = .ok (.getfield 18, 3) := by decide +kernel
theorem dX2_partsWhenMoved_12 : decode cX2_partsWhenMoved 12 = .ok (.iload_n 2, 1) := by decide +kernel
theorem dX2_partsWhenMoved_13 : decode cX2_partsWhenMoved 13 = .ok (.invokestatic 63, 3) := by decide +kernel
theorem dX2_partsWhenMoved_16 : decode cX2_partsWhenMoved 16 = .ok (.aload_n 0, 1) := by decide +kernel
theorem dX2_partsWhenMoved_17 : decode cX2_partsWhenMoved 17 = .ok (.getfield 18, 3) := by decide +kernel
theorem dX2_partsWhenMoved_20 : decode cX2_partsWhenMoved 20 = .ok (.invokestatic 121, 3) := by decide +kernel
theorem dX2_partsWhenMoved_23 : decode cX2_partsWhenMoved 23 = .ok (.ireturn, 1) := by decide +kernel
theorem dX3_init_0 : decode cX3_init 0 = .ok (.aload_n 0, 1) := by decide +kernel
theorem dX3_init_1 : decode cX3_init 1 = .ok (.invokespecial 1, 3) := by decide +kernel
theorem dX3_init_4 : decode cX3_init 4 = .ok (.aload_n 0, 1) := by decide +kernel
theorem dX3_init_5 : decode cX3_init 5 = .ok (.sipush 144, 3) := by decide +kernel
theorem dX3_init_8 : decode cX3_init 8 = .ok (.newarray .int, 2) := by decide +kernel
theorem dX3_init_10 : decode cX3_init 10 = .ok (.putfield 9, 3) := by decide +kernel
theorem dX3_init_13 : decode cX3_init 13 = .ok (.aload_n 0, 1) := by decide +kernel
theorem dX3_init_14 : decode cX3_init 14 = .ok (.bipush 9, 2) := by decide +kernel
theorem dX3_init_16 : decode cX3_init 16 = .ok (.newarray .int, 2) := by decide +kernel
theorem dX3_init_18 : decode cX3_init 18 = .ok (.putfield 13, 3) := by decide +kernel
theorem dX3_init_21 : decode cX3_init 21 = .ok (.aload_n 0, 1) := by decide +kernel
theorem dX3_init_22 : decode cX3_init 22 = .ok (.bipush 9, 2) := by decide +kernel
theorem dX3_init_24 : decode cX3_init 24 = .ok (.newarray .int, 2) := by decide +kernel
theorem dX3_init_26 : decode cX3_init 26 = .ok (.putfield 16, 3) := by decide +kernel
theorem dX3_init_29 : decode cX3_init 29 = .ok (.aload_n 0, 1) := by decide +kernel
theorem dX3_init_30 : decode cX3_init 30 = .ok (.new 19, 3) := by decide +kernel
theorem dX3_init_33 : decode cX3_init 33 = .ok (.dup, 1) := by decide +kernel
theorem dX3_init_34 : decode cX3_init 34 = .ok (.invokespecial 21, 3) := by decide +kernel
theorem dX3_init_37 : decode cX3_init 37 = .ok (.putfield 22, 3) := by decide +kernel
theorem dX3_init_40 : decode cX3_init 40 = .ok (.return_, 1) := by decide +kernel
theorem dX3_thrown_0 : decode cX3_thrown 0 = .ok (.aload_n 0, 1) := by decide +kernel
theorem dX3_thrown_1 : decode cX3_thrown 1 = .ok (.getfield 26, 3) := by decide +kernel
theorem dX3_thrown_4 : decode cX3_thrown 4 = .ok (.ireturn, 1) := by decide +kernel
theorem dX3_no_0 : decode cX3_no 0 = .ok (.aload_n 0, 1) := by decide +kernel
theorem dX3_no_1 : decode cX3_no 1 = .ok (.iload_n 1, 1) := by decide +kernel
theorem dX3_no_2 : decode cX3_no 2 = .ok (.putfield 26, 3) := by decide +kernel
theorem dX3_no_5 : decode cX3_no 5 = .ok (.iconst 0, 1) := by decide +kernel
theorem dX3_no_6 : decode cX3_no 6 = .ok (.ireturn, 1) := by decide +kernel
theorem dX3_isNot_0 : decode cX3_isNot 0 = .ok (.aload_n 0, 1) := by decide +kernel
theorem dX3_isNot_1 : decode cX3_isNot 1 = .ok (.iload_n 1, 1) := by decide +kernel
theorem dX3_isNot_2 : decode cX3_isNot 2 = .ok (.putfield 26, 3) := by decide +kernel
theorem dX3_isNot_5 : decode cX3_isNot 5 = .ok (.iconst 0, 1) := by decide +kernel
theorem dX3_isNot_6 : decode cX3_isNot 6 = .ok (.ireturn, 1) := by decide +kernel
theorem dX3_ok_0 : decode cX3_ok 0 = .ok (.aload_n 0, 1) := by decide +kernel
theorem dX3_ok_1 : decode cX3_ok 1 = .ok (.iconst 0, 1) := by decide +kernel
theorem dX3_ok_2 : decode cX3_ok 2 = .ok (.putfield 26, 3) := by decide +kernel
theorem dX3_ok_5 : decode cX3_ok 5 = .ok (.iload_n 1, 1) := by decide +kernel
theorem dX3_ok_6 : decode cX3_ok 6 = .ok (.ireturn, 1) := by decide +kernel
theorem dX3_isFrom_0 : decode cX3_isFrom 0 = .ok (.iload_n 0, 1) := by decide +kernel
theorem dX3_isFrom_1 : decode cX3_isFrom 1 = .ok (.iload_n 1, 1) := by decide +kernel
theorem dX3_isFrom_2 : decode cX3_isFrom 2 = .ok (.if_icmp .lt 12, 3) := by decide +kernel
theorem dX3_isFrom_5 : decode cX3_isFrom 5 = .ok (.iload_n 0, 1) := by decide +kernel
theorem dX3_isFrom_6 : decode cX3_isFrom 6 = .ok (.iload_n 2, 1) := by decide +kernel
theorem dX3_isFrom_7 : decode cX3_isFrom 7 = .ok (.if_icmp .gt 7, 3) := by decide +kernel
theorem dX3_isFrom_10 : decode cX3_isFrom 10 = .ok (.iconst 1, 1) := by decide +kernel
theorem dX3_isFrom_11 : decode cX3_isFrom 11 = .ok (.goto 4, 3) := by decide +kernel
theorem dX3_isFrom_14 : decode cX3_isFrom 14 = .ok (.iconst 0, 1) := by decide +kernel
theorem dX3_isFrom_15 : decode cX3_isFrom 15 = .ok (.ireturn, 1) := by decide +kernel
theorem dX3_isRecipe_0 : decode cX3_isRecipe 0 = .ok (.iload_n 1, 1) := by decide +kernel
theorem dX3_isRecipe_1 : decode cX3_isRecipe 1 = .ok (.iconst 0, 1) := by decide +kernel
theorem dX3_isRecipe_2 : decode cX3_isRecipe 2 = .ok (.aload_n 0, 1) := by decide +kernel
theorem dX3_isRecipe_3 : decode cX3_isRecipe 3 = .ok (.getfield 30, 3) := by decide +kernel
theorem dX3_isRecipe_6 : decode cX3_isRecipe 6 = .ok (.iconst 1, 1) := by decide +kernel
theorem dX3_isRecipe_7 : decode cX3_isRecipe 7 = .ok (.isub, 1) := by decide +kernel
theorem dX3_isRecipe_8 : decode cX3_isRecipe 8 = .ok (.invokestatic 33, 3) := by decide +kernel
theorem dX3_isRecipe_11 : decode cX3_isRecipe 11 = .ok (.ireturn, 1) := by decide +kernel
theorem dX3_at_0 : decode cX3_at 0 = .ok (.aload_n 0, 1) := by decide +kernel
theorem dX3_at_1 : decode cX3_at 1 = .ok (.getfield 9, 3) := by decide +kernel
theorem dX3_at_4 : decode cX3_at 4 = .ok (.bipush 9, 2) := by decide +kernel
theorem dX3_at_6 : decode cX3_at 6 = .ok (.iload_n 1, 1) := by decide +kernel
theorem dX3_at_7 : decode cX3_at 7 = .ok (.imul, 1) := by decide +kernel
theorem dX3_at_8 : decode cX3_at 8 = .ok (.iload_n 2, 1) := by decide +kernel
theorem dX3_at_9 : decode cX3_at 9 = .ok (.iadd, 1) := by decide +kernel
theorem dX3_at_10 : decode cX3_at 10 = .ok (.iaload, 1) := by decide +kernel
theorem dX3_at_11 : decode cX3_at 11 = .ok (.ireturn, 1) := by decide +kernel
theorem dX3_degree_0 : decode cX3_degree 0 = .ok (.bipush 8, 2) := by decide +kernel
theorem dX3_degree_2 : decode cX3_degree 2 = .ok (.istore_n 1, 1) := by decide +kernel
theorem dX3_degree_3 : decode cX3_degree 3 = .ok (.iload_n 1, 1) := by decide +kernel
theorem dX3_degree_4 : decode cX3_degree 4 = .ok (.ifCond .lt 15, 3) := by decide +kernel
theorem dX3_degree_7 : decode cX3_degree 7 = .ok (.aload_n 0, 1) := by decide +kernel
theorem dX3_degree_8 : decode cX3_degree 8 = .ok (.iload_n 1, 1) := by decide +kernel
theorem dX3_degree_9 : decode cX3_degree 9 = .ok (.iaload, 1) := by decide +kernel
theorem dX3_degree_10 : decode cX3_degree 10 = .ok (.ifCond .ne 9, 3) := by decide +kernel
theorem dX3_degree_13 : decode cX3_degree 13 = .ok (.iinc 1 (-1), 3) := by decide +kernel
theorem dX3_degree_16 : decode cX3_degree 16 = .ok (.goto (-13), 3) := by decide +kernel
theorem dX3_degree_19 : decode cX3_degree 19 = .ok (.iload_n 1, 1) := by decide +kernel
theorem dX3_degree_20 : decode cX3_degree 20 = .ok (.ireturn, 1) := by decide +kernel
theorem dX3_take_0 : decode cX3_take 0 = .ok (.aload_n 0, 1) := by decide +kernel
theorem dX3_take_1 : decode cX3_take 1 = .ok (.getfield 9, 3) := by decide +kernel
theorem dX3_take_4 : decode cX3_take 4 = .ok (.bipush 9, 2) := by decide +kernel
theorem dX3_take_6 : decode cX3_take 6 = .ok (.iload_n 1, 1) := by decide +kernel
theorem dX3_take_7 : decode cX3_take 7 = .ok (.imul, 1) := by decide +kernel
theorem dX3_take_8 : decode cX3_take 8 = .ok (.aload_n 2, 1) := by decide +kernel
theorem dX3_take_9 : decode cX3_take 9 = .ok (.iconst 0, 1) := by decide +kernel
theorem dX3_take_10 : decode cX3_take 10 = .ok (.bipush 9, 2) := by decide +kernel
theorem dX3_take_12 : decode cX3_take 12 = .ok (.invokestatic 37, 3) := by decide +kernel
theorem dX3_take_15 : decode cX3_take 15 = .ok (.return_, 1) := by decide +kernel
theorem dX3_put_0 : decode cX3_put 0 = .ok (.aload_n 2, 1) := by decide +kernel
theorem dX3_put_1 : decode cX3_put 1 = .ok (.iconst 0, 1) := by decide +kernel
theorem dX3_put_2 : decode cX3_put 2 = .ok (.aload_n 0, 1) := by decide +kernel
theorem dX3_put_3 : decode cX3_put 3 = .ok (.getfield 9, 3) := by decide +kernel
theorem dX3_put_6 : decode cX3_put 6 = .ok (.bipush 9, 2) := by decide +kernel
theorem dX3_put_8 : decode cX3_put 8 = .ok (.iload_n 1, 1) := by decide +kernel
theorem dX3_put_9 : decode cX3_put 9 = .ok (.imul, 1) := by decide +kernel
theorem dX3_put_10 : decode cX3_put 10 = .ok (.bipush 9, 2) := by decide +kernel
theorem dX3_put_12 : decode cX3_put 12 = .ok (.invokestatic 37, 3) := by decide +kernel
theorem dX3_put_15 : decode cX3_put 15 = .ok (.return_, 1) := by decide +kernel
theorem dX3_made_0 : decode cX3_made 0 = .ok (.aload_n 0, 1) := by decide +kernel
theorem dX3_made_1 : decode cX3_made 1 = .ok (.aload_n 0, 1) := by decide +kernel
theorem dX3_made_2 : decode cX3_made 2 = .ok (.getfield 30, 3) := by decide +kernel
theorem dX3_made_5 : decode cX3_made 5 = .ok (.aload_n 1, 1) := by decide +kernel
theorem dX3_made_6 : decode cX3_made 6 = .ok (.invokevirtual 43, 3) := by decide +kernel
theorem dX3_made_9 : decode cX3_made 9 = .ok (.aload_n 0, 1) := by decide +kernel
theorem dX3_made_10 : decode cX3_made 10 = .ok (.dup, 1) := by decide +kernel
theorem dX3_made_11 : decode cX3_made 11 = .ok (.getfield 30, 3) := by decide +kernel
theorem dX3_made_14 : decode cX3_made 14 = .ok (.iconst 1, 1) := by decide +kernel
theorem dX3_made_15 : decode cX3_made 15 = .ok (.iadd, 1) := by decide +kernel
theorem dX3_made_16 : decode cX3_made 16 = .ok (.putfield 30, 3) := by decide +kernel
theorem dX3_made_19 : decode cX3_made 19 = .ok (.aload_n 0, 1) := by decide +kernel
theorem dX3_made_20 : decode cX3_made 20 = .ok (.getfield 30, 3) := by decide +kernel
theorem dX3_made_23 : decode cX3_made 23 = .ok (.iconst 1, 1) := by decide +kernel
theorem dX3_made_24 : decode cX3_made 24 = .ok (.isub, 1) := by decide +kernel
theorem dX3_made_25 : decode cX3_made 25 = .ok (.ireturn, 1) := by decide +kernel
theorem dX3_degreeNow_0 : decode cX3_degreeNow 0 = .ok (.bipush 8, 2) := by decide +kernel
theorem dX3_degreeNow_2 : decode cX3_degreeNow 2 = .ok (.istore_n 2, 1) := by decide +kernel
theorem dX3_degreeNow_3 : decode cX3_degreeNow 3 = .ok (.iload_n 2, 1) := by decide +kernel
theorem dX3_degreeNow_4 : decode cX3_degreeNow 4 = .ok (.ifCond .lt 18, 3) := by decide +kernel
theorem dX3_degreeNow_7 : decode cX3_degreeNow 7 = .ok (.aload_n 0, 1) := by decide +kernel
theorem dX3_degreeNow_8 : decode cX3_degreeNow 8 = .ok (.iload_n 1, 1) := by decide +kernel
theorem dX3_degreeNow_9 : decode cX3_degreeNow 9 = .ok (.iload_n 2, 1) := by decide +kernel
theorem dX3_degreeNow_10 : decode cX3_degreeNow 10 = .ok (.invokevirtual 47, 3) := by decide +kernel
theorem dX3_degreeNow_13 : decode cX3_degreeNow 13 = .ok (.ifCond .ne 9, 3) := by decide +kernel
theorem dX3_degreeNow_16 : decode cX3_degreeNow 16 = .ok (.iinc 2 (-1), 3) := by decide +kernel
theorem dX3_degreeNow_19 : decode cX3_degreeNow 19 = .ok (.goto (-16), 3) := by decide +kernel
theorem dX3_degreeNow_22 : decode cX3_degreeNow 22 = .ok (.iload_n 2, 1) := by decide +kernel
theorem dX3_degreeNow_23 : decode cX3_degreeNow 23 = .ok (.ireturn, 1) := by decide +kernel
theorem dX3_plain_0 : decode cX3_plain 0 = .ok (.aload_n 0, 1) := by decide +kernel
theorem dX3_plain_1 : decode cX3_plain 1 = .ok (.iload_n 1, 1) := by decide +kernel
theorem dX3_plain_2 : decode cX3_plain 2 = .ok (.invokevirtual 51, 3) := by decide +kernel
theorem dX3_plain_5 : decode cX3_plain 5 = .ok (.istore_n 2, 1) := by decide +kernel
theorem dX3_plain_6 : decode cX3_plain 6 = .ok (.iload_n 2, 1) := by decide +kernel
theorem dX3_plain_7 : decode cX3_plain 7 = .ok (.ifCond .lt 17, 3) := by decide +kernel
theorem dX3_plain_10 : decode cX3_plain 10 = .ok (.aload_n 0, 1) := by decide +kernel
theorem dX3_plain_11 : decode cX3_plain 11 = .ok (.iload_n 1, 1) := by decide +kernel
theorem dX3_plain_12 : decode cX3_plain 12 = .ok (.iload_n 2, 1) := by decide +kernel
theorem dX3_plain_13 : decode cX3_plain 13 = .ok (.invokevirtual 47, 3) := by decide +kernel
theorem dX3_plain_16 : decode cX3_plain 16 = .ok (.iconst 1, 1) := by decide +kernel
theorem dX3_plain_17 : decode cX3_plain 17 = .ok (.if_icmp .ne 7, 3) := by decide +kernel
theorem dX3_plain_20 : decode cX3_plain 20 = .ok (.iconst 1, 1) := by decide +kernel
theorem dX3_plain_21 : decode cX3_plain 21 = .ok (.goto 4, 3) := by decide +kernel
theorem dX3_plain_24 : decode cX3_plain 24 = .ok (.iconst 0, 1) := by decide +kernel
theorem dX3_plain_25 : decode cX3_plain 25 = .ok (.ireturn, 1) := by decide +kernel
theorem dX3_eat_0 : decode cX3_eat 0 = .ok (.iconst 0, 1) := by decide +kernel
theorem dX3_eat_1 : decode cX3_eat 1 = .ok (.istore_n 2, 1) := by decide +kernel
theorem dX3_eat_2 : decode cX3_eat 2 = .ok (.bipush 8, 2) := by decide +kernel
theorem dX3_eat_4 : decode cX3_eat 4 = .ok (.istore_n 3, 1) := by decide +kernel
theorem dX3_eat_5 : decode cX3_eat 5 = .ok (.iload_n 3, 1) := by decide +kernel
theorem dX3_eat_6 : decode cX3_eat 6 = .ok (.ifCond .lt 17, 3) := by decide +kernel
theorem dX3_eat_9 : decode cX3_eat 9 = .ok (.iload_n 2, 1) := by decide +kernel
theorem dX3_eat_10 : decode cX3_eat 10 = .ok (.iload_n 1, 1) := by decide +kernel
theorem dX3_eat_11 : decode cX3_eat 11 = .ok (.imul, 1) := by decide +kernel
theorem dX3_eat_12 : decode cX3_eat 12 = .ok (.aload_n 0, 1) := by decide +kernel
theorem dX3_eat_13 : decode cX3_eat 13 = .ok (.iload_n 3, 1) := by decide +kernel
theorem dX3_eat_14 : decode cX3_eat 14 = .ok (.iaload, 1) := by decide +kernel
theorem dX3_eat_15 : decode cX3_eat 15 = .ok (.iadd, 1) := by decide +kernel
theorem dX3_eat_16 : decode cX3_eat 16 = .ok (.istore_n 2, 1) := by decide +kernel
theorem dX3_eat_17 : decode cX3_eat 17 = .ok (.iinc 3 (-1), 3) := by decide +kernel
theorem dX3_eat_20 : decode cX3_eat 20 = .ok (.goto (-15), 3) := by decide +kernel
theorem dX3_eat_23 : decode cX3_eat 23 = .ok (.iload_n 2, 1) := by decide +kernel
theorem dX3_eat_24 : decode cX3_eat 24 = .ok (.ireturn, 1) := by decide +kernel
theorem dX3_hungerOf_0 : decode cX3_hungerOf 0 = .ok (.aload_n 0, 1) := by decide +kernel
theorem dX3_hungerOf_1 : decode cX3_hungerOf 1 = .ok (.iload_n 1, 1) := by decide +kernel
theorem dX3_hungerOf_2 : decode cX3_hungerOf 2 = .ok (.aload_n 0, 1) := by decide +kernel
theorem dX3_hungerOf_3 : decode cX3_hungerOf 3 = .ok (.getfield 13, 3) := by decide +kernel
theorem dX3_hungerOf_6 : decode cX3_hungerOf 6 = .ok (.invokevirtual 55, 3) := by decide +kernel
theorem dX3_hungerOf_9 : decode cX3_hungerOf 9 = .ok (.aload_n 0, 1) := by decide +kernel
theorem dX3_hungerOf_10 : decode cX3_hungerOf 10 = .ok (.getfield 13, 3) := by decide +kernel
theorem dX3_hungerOf_13 : decode cX3_hungerOf 13 = .ok (.iload_n 2, 1) := by decide +kernel
theorem dX3_hungerOf_14 : decode cX3_hungerOf 14 = .ok (.invokestatic 58, 3) := by decide +kernel
theorem dX3_hungerOf_17 : decode cX3_hungerOf 17 = .ok (.ireturn, 1) := by decide +kernel
theorem dX3_divideBy_0 : decode cX3_divideBy 0 = .ok (.bipush 7, 2) := by decide +kernel
theorem dX3_divideBy_2 : decode cX3_divideBy 2 = .ok (.istore_n 3, 1) := by decide +kernel
theorem dX3_divideBy_3 : decode cX3_divideBy 3 = .ok (.iload_n 3, 1) := by decide +kernel
theorem dX3_divideBy_4 : decode cX3_divideBy 4 = .ok (.iload_n 2, 1) := by decide +kernel
theorem dX3_divideBy_5 : decode cX3_divideBy 5 = .ok (.if_icmp .lt 22, 3) := by decide +kernel
theorem dX3_divideBy_8 : decode cX3_divideBy 8 = .ok (.aload_n 0, 1) := by decide +kernel
theorem dX3_divideBy_9 : decode cX3_divideBy 9 = .ok (.iload_n 3, 1) := by decide +kernel
theorem dX3_divideBy_10 : decode cX3_divideBy 10 = .ok (.dup2, 1) := by decide +kernel
theorem dX3_divideBy_11 : decode cX3_divideBy 11 = .ok (.iaload, 1) := by decide +kernel
theorem dX3_divideBy_12 : decode cX3_divideBy 12 = .ok (.iload_n 1, 1) := by decide +kernel
theorem dX3_divideBy_13 : decode cX3_divideBy 13 = .ok (.aload_n 0, 1) := by decide +kernel
theorem dX3_divideBy_14 : decode cX3_divideBy 14 = .ok (.iload_n 3, 1) := by decide +kernel
theorem dX3_divideBy_15 : decode cX3_divideBy 15 = .ok (.iconst 1, 1) := by decide +kernel
theorem dX3_divideBy_16 : decode cX3_divideBy 16 = .ok (.iadd, 1) := by decide +kernel
theorem dX3_divideBy_17 : decode cX3_divideBy 17 = .ok (.iaload, 1) := by decide +kernel
theorem dX3_divideBy_18 : decode cX3_divideBy 18 = .ok (.imul, 1) := by decide +kernel
theorem dX3_divideBy_19 : decode cX3_divideBy 19 = .ok (.iadd, 1) := by decide +kernel
theorem dX3_divideBy_20 : decode cX3_divideBy 20 = .ok (.iastore, 1) := by decide +kernel
theorem dX3_divideBy_21 : decode cX3_divideBy 21 = .ok (.iinc 3 (-1), 3) := by decide +kernel
theorem dX3_divideBy_24 : decode cX3_divideBy 24 = .ok (.goto (-21), 3) := by decide +kernel
theorem dX3_divideBy_27 : decode cX3_divideBy 27 = .ok (.return_, 1) := by decide +kernel
theorem dX3_shiftRow_0 : decode cX3_shiftRow 0 = .ok (.iconst 0, 1) := by decide +kernel
theorem dX3_shiftRow_1 : decode cX3_shiftRow 1 = .ok (.istore_n 2, 1) := by decide +kernel
theorem dX3_shiftRow_2 : decode cX3_shiftRow 2 = .ok (.iload_n 2, 1) := by decide +kernel
theorem dX3_shiftRow_3 : decode cX3_shiftRow 3 = .ok (.bipush 8, 2) := by decide +kernel
theorem dX3_shiftRow_5 : decode cX3_shiftRow 5 = .ok (.if_icmp .ge 15, 3) := by decide +kernel
theorem dX3_shiftRow_8 : decode cX3_shiftRow 8 = .ok (.aload_n 0, 1) := by decide +kernel
theorem dX3_shiftRow_9 : decode cX3_shiftRow 9 = .ok (.iload_n 1, 1) := by decide +kernel
theorem dX3_shiftRow_10 : decode cX3_shiftRow 10 = .ok (.iload_n 2, 1) := by decide +kernel
theorem dX3_shiftRow_11 : decode cX3_shiftRow 11 = .ok (.invokestatic 62, 3) := by decide +kernel
theorem dX3_shiftRow_14 : decode cX3_shiftRow 14 = .ok (.iinc 2 1, 3) := by decide +kernel
theorem dX3_shiftRow_17 : decode cX3_shiftRow 17 = .ok (.goto (-15), 3) := by decide +kernel
theorem dX3_shiftRow_20 : decode cX3_shiftRow 20 = .ok (.return_, 1) := by decide +kernel
theorem dX3_multiply_0 : decode cX3_multiply 0 = .ok (.bipush 8, 2) := by decide +kernel
theorem dX3_multiply_2 : decode cX3_multiply 2 = .ok (.istore_n 3, 1) := by decide +kernel
theorem dX3_multiply_3 : decode cX3_multiply 3 = .ok (.iload_n 3, 1) := by decide +kernel
theorem dX3_multiply_4 : decode cX3_multiply 4 = .ok (.ifCond .lt 51, 3) := by decide +kernel
theorem dX3_multiply_7 : decode cX3_multiply 7 = .ok (.iconst 0, 1) := by decide +kernel
theorem dX3_multiply_8 : decode cX3_multiply 8 = .ok (.istore 4, 2) := by decide +kernel
theorem dX3_multiply_10 : decode cX3_multiply 10 = .ok (.iconst 0, 1) := by decide +kernel
theorem dX3_multiply_11 : decode cX3_multiply 11 = .ok (.istore 5, 2) := by decide +kernel
theorem dX3_multiply_13 : decode cX3_multiply 13 = .ok (.iload 5, 2) := by decide +kernel
theorem dX3_multiply_15 : decode cX3_multiply 15 = .ok (.iload_n 3, 1) := by decide +kernel
theorem dX3_multiply_16 : decode cX3_multiply 16 = .ok (.if_icmp .gt 28, 3) := by decide +kernel
theorem dX3_multiply_19 : decode cX3_multiply 19 = .ok (.iload 4, 2) := by decide +kernel
theorem dX3_multiply_21 : decode cX3_multiply 21 = .ok (.aload_n 1, 1) := by decide +kernel
theorem dX3_multiply_22 : decode cX3_multiply 22 = .ok (.iload 5, 2) := by decide +kernel
theorem dX3_multiply_24 : decode cX3_multiply 24 = .ok (.iaload, 1) := by decide +kernel
theorem dX3_multiply_25 : decode cX3_multiply 25 = .ok (.aload_n 0, 1) := by decide +kernel
theorem dX3_multiply_26 : decode cX3_multiply 26 = .ok (.iload_n 2, 1) := by decide +kernel
theorem dX3_multiply_27 : decode cX3_multiply 27 = .ok (.iload_n 3, 1) := by decide +kernel
theorem dX3_multiply_28 : decode cX3_multiply 28 = .ok (.iload 5, 2) := by decide +kernel
theorem dX3_multiply_30 : decode cX3_multiply 30 = .ok (.isub, 1) := by decide +kernel
theorem dX3_multiply_31 : decode cX3_multiply 31 = .ok (.invokevirtual 47, 3) := by decide +kernel
theorem dX3_multiply_34 : decode cX3_multiply 34 = .ok (.imul, 1) := by decide +kernel
theorem dX3_multiply_35 : decode cX3_multiply 35 = .ok (.iadd, 1) := by decide +kernel
theorem dX3_multiply_36 : decode cX3_multiply 36 = .ok (.istore 4, 2) := by decide +kernel
theorem dX3_multiply_38 : decode cX3_multiply 38 = .ok (.iinc 5 1, 3) := by decide +kernel
theorem dX3_multiply_41 : decode cX3_multiply 41 = .ok (.goto (-28), 3) := by decide +kernel
theorem dX3_multiply_44 : decode cX3_multiply 44 = .ok (.aload_n 1, 1) := by decide +kernel
theorem dX3_multiply_45 : decode cX3_multiply 45 = .ok (.iload_n 3, 1) := by decide +kernel
theorem dX3_multiply_46 : decode cX3_multiply 46 = .ok (.iload 4, 2) := by decide +kernel
theorem dX3_multiply_48 : decode cX3_multiply 48 = .ok (.iastore, 1) := by decide +kernel
theorem dX3_multiply_49 : decode cX3_multiply 49 = .ok (.iinc 3 (-1), 3) := by decide +kernel
theorem dX3_multiply_52 : decode cX3_multiply 52 = .ok (.goto (-49), 3) := by decide +kernel
theorem dX3_multiply_55 : decode cX3_multiply 55 = .ok (.return_, 1) := by decide +kernel
theorem dX3_divideRow_0 : decode cX3_divideRow 0 = .ok (.aload_n 0, 1) := by decide +kernel
theorem dX3_divideRow_1 : decode cX3_divideRow 1 = .ok (.iload_n 1, 1) := by decide +kernel
theorem dX3_divideRow_2 : decode cX3_divideRow 2 = .ok (.invokevirtual 51, 3) := by decide +kernel
theorem dX3_divideRow_5 : decode cX3_divideRow 5 = .ok (.istore_n 2, 1) := by decide +kernel
theorem dX3_divideRow_6 : decode cX3_divideRow 6 = .ok (.iconst 0, 1) := by decide +kernel
theorem dX3_divideRow_7 : decode cX3_divideRow 7 = .ok (.istore_n 3, 1) := by decide +kernel
theorem dX3_divideRow_8 : decode cX3_divideRow 8 = .ok (.iload_n 3, 1) := by decide +kernel
theorem dX3_divideRow_9 : decode cX3_divideRow 9 = .ok (.bipush 9, 2) := by decide +kernel
theorem dX3_divideRow_11 : decode cX3_divideRow 11 = .ok (.if_icmp .ge 16, 3) := by decide +kernel
theorem dX3_divideRow_14 : decode cX3_divideRow 14 = .ok (.aload_n 0, 1) := by decide +kernel
theorem dX3_divideRow_15 : decode cX3_divideRow 15 = .ok (.getfield 16, 3) := by decide +kernel
theorem dX3_divideRow_18 : decode cX3_divideRow 18 = .ok (.iload_n 3, 1) := by decide +kernel
theorem dX3_divideRow_19 : decode cX3_divideRow 19 = .ok (.iconst 0, 1) := by decide +kernel
theorem dX3_divideRow_20 : decode cX3_divideRow 20 = .ok (.iastore, 1) := by decide +kernel
theorem dX3_divideRow_21 : decode cX3_divideRow 21 = .ok (.iinc 3 1, 3) := by decide +kernel
theorem dX3_divideRow_24 : decode cX3_divideRow 24 = .ok (.goto (-16), 3) := by decide +kernel
theorem dX3_divideRow_27 : decode cX3_divideRow 27 = .ok (.bipush 8, 2) := by decide +kernel
theorem dX3_divideRow_29 : decode cX3_divideRow 29 = .ok (.istore_n 3, 1) := by decide +kernel
theorem dX3_divideRow_30 : decode cX3_divideRow 30 = .ok (.iload_n 3, 1) := by decide +kernel
theorem dX3_divideRow_31 : decode cX3_divideRow 31 = .ok (.iload_n 2, 1) := by decide +kernel
theorem dX3_divideRow_32 : decode cX3_divideRow 32 = .ok (.if_icmp .lt 66, 3) := by decide +kernel
theorem dX3_divideRow_35 : decode cX3_divideRow 35 = .ok (.aload_n 0, 1) := by decide +kernel
theorem dX3_divideRow_36 : decode cX3_divideRow 36 = .ok (.getfield 13, 3) := by decide +kernel
theorem dX3_divideRow_39 : decode cX3_divideRow 39 = .ok (.iload_n 3, 1) := by decide +kernel
theorem dX3_divideRow_40 : decode cX3_divideRow 40 = .ok (.iaload, 1) := by decide +kernel
theorem dX3_divideRow_41 : decode cX3_divideRow 41 = .ok (.istore 4, 2) := by decide +kernel
theorem dX3_divideRow_43 : decode cX3_divideRow 43 = .ok (.aload_n 0, 1) := by decide +kernel
theorem dX3_divideRow_44 : decode cX3_divideRow 44 = .ok (.getfield 16, 3) := by decide +kernel
theorem dX3_divideRow_47 : decode cX3_divideRow 47 = .ok (.iload_n 3, 1) := by decide +kernel
theorem dX3_divideRow_48 : decode cX3_divideRow 48 = .ok (.iload_n 2, 1) := by decide +kernel
theorem dX3_divideRow_49 : decode cX3_divideRow 49 = .ok (.isub, 1) := by decide +kernel
theorem dX3_divideRow_50 : decode cX3_divideRow 50 = .ok (.iload 4, 2) := by decide +kernel
theorem dX3_divideRow_52 : decode cX3_divideRow 52 = .ok (.iastore, 1) := by decide +kernel
theorem dX3_divideRow_53 : decode cX3_divideRow 53 = .ok (.iconst 0, 1) := by decide +kernel
theorem dX3_divideRow_54 : decode cX3_divideRow 54 = .ok (.istore 5, 2) := by decide +kernel
theorem dX3_divideRow_56 : decode cX3_divideRow 56 = .ok (.iload 5, 2) := by decide +kernel
theorem dX3_divideRow_58 : decode cX3_divideRow 58 = .ok (.iload_n 2, 1) := by decide +kernel
theorem dX3_divideRow_59 : decode cX3_divideRow 59 = .ok (.if_icmp .gt 33, 3) := by decide +kernel
theorem dX3_divideRow_62 : decode cX3_divideRow 62 = .ok (.aload_n 0, 1) := by decide +kernel
theorem dX3_divideRow_63 : decode cX3_divideRow 63 = .ok (.getfield 13, 3) := by decide +kernel
theorem dX3_divideRow_66 : decode cX3_divideRow 66 = .ok (.iload_n 3, 1) := by decide +kernel
theorem dX3_divideRow_67 : decode cX3_divideRow 67 = .ok (.iload_n 2, 1) := by decide +kernel
theorem dX3_divideRow_68 : decode cX3_divideRow 68 = .ok (.isub, 1) := by decide +kernel
theorem dX3_divideRow_69 : decode cX3_divideRow 69 = .ok (.iload 5, 2) := by decide +kernel
theorem dX3_divideRow_71 : decode cX3_divideRow 71 = .ok (.iadd, 1) := by decide +kernel
theorem dX3_divideRow_72 : decode cX3_divideRow 72 = .ok (.dup2, 1) := by decide +kernel
theorem dX3_divideRow_73 : decode cX3_divideRow 73 = .ok (.iaload, 1) := by decide +kernel
theorem dX3_divideRow_74 : decode cX3_divideRow 74 = .ok (.iload 4, 2) := by decide +kernel
theorem dX3_divideRow_76 : decode cX3_divideRow 76 = .ok (.aload_n 0, 1) := by decide +kernel
theorem dX3_divideRow_77 : decode cX3_divideRow 77 = .ok (.iload_n 1, 1) := by decide +kernel
theorem dX3_divideRow_78 : decode cX3_divideRow 78 = .ok (.iload 5, 2) := by decide +kernel
theorem dX3_divideRow_80 : decode cX3_divideRow 80 = .ok (.invokevirtual 47, 3) := by decide +kernel
theorem dX3_divideRow_83 : decode cX3_divideRow 83 = .ok (.imul, 1) := by decide +kernel
theorem dX3_divideRow_84 : decode cX3_divideRow 84 = .ok (.isub, 1) := by decide +kernel
theorem dX3_divideRow_85 : decode cX3_divideRow 85 = .ok (.iastore, 1) := by decide +kernel
theorem dX3_divideRow_86 : decode cX3_divideRow 86 = .ok (.iinc 5 1, 3) := by decide +kernel
theorem dX3_divideRow_89 : decode cX3_divideRow 89 = .ok (.goto (-33), 3) := by decide +kernel
theorem dX3_divideRow_92 : decode cX3_divideRow 92 = .ok (.iinc 3 (-1), 3) := by decide +kernel
theorem dX3_divideRow_95 : decode cX3_divideRow 95 = .ok (.goto (-65), 3) := by decide +kernel
theorem dX3_divideRow_98 : decode cX3_divideRow 98 = .ok (.return_, 1) := by decide +kernel
theorem dX3_addRecipe_0 : decode cX3_addRecipe 0 = .ok (.aload_n 0, 1) := by decide +kernel
theorem dX3_addRecipe_1 : decode cX3_addRecipe 1 = .ok (.iconst 0, 1) := by decide +kernel
theorem dX3_addRecipe_2 : decode cX3_addRecipe 2 = .ok (.putfield 26, 3) := by decide +kernel
theorem dX3_addRecipe_5 : decode cX3_addRecipe 5 = .ok (.aload_n 0, 1) := by decide +kernel
theorem dX3_addRecipe_6 : decode cX3_addRecipe 6 = .ok (.getfield 30, 3) := by decide +kernel
theorem dX3_addRecipe_9 : decode cX3_addRecipe 9 = .ok (.bipush 16, 2) := by decide +kernel
theorem dX3_addRecipe_11 : decode cX3_addRecipe 11 = .ok (.if_icmp .ne 9, 3) := by decide +kernel
theorem dX3_addRecipe_14 : decode cX3_addRecipe 14 = .ok (.aload_n 0, 1) := by decide +kernel
theorem dX3_addRecipe_15 : decode cX3_addRecipe 15 = .ok (.iconst 1, 1) := by decide +kernel
theorem dX3_addRecipe_16 : decode cX3_addRecipe 16 = .ok (.invokevirtual 66, 3) := by decide +kernel
theorem dX3_addRecipe_19 : decode cX3_addRecipe 19 = .ok (.ireturn, 1) := by decide +kernel
theorem dX3_addRecipe_20 : decode cX3_addRecipe 20 = .ok (.iconst 0, 1) := by decide +kernel
theorem dX3_addRecipe_21 : decode cX3_addRecipe 21 = .ok (.istore_n 1, 1) := by decide +kernel
theorem dX3_addRecipe_22 : decode cX3_addRecipe 22 = .ok (.iload_n 1, 1) := by decide +kernel
theorem dX3_addRecipe_23 : decode cX3_addRecipe 23 = .ok (.bipush 9, 2) := by decide +kernel
theorem dX3_addRecipe_25 : decode cX3_addRecipe 25 = .ok (.if_icmp .ge 16, 3) := by decide +kernel
theorem dX3_addRecipe_28 : decode cX3_addRecipe 28 = .ok (.aload_n 0, 1) := by decide +kernel
theorem dX3_addRecipe_29 : decode cX3_addRecipe 29 = .ok (.getfield 13, 3) := by decide +kernel
theorem dX3_addRecipe_32 : decode cX3_addRecipe 32 = .ok (.iload_n 1, 1) := by decide +kernel
theorem dX3_addRecipe_33 : decode cX3_addRecipe 33 = .ok (.iconst 0, 1) := by decide +kernel
theorem dX3_addRecipe_34 : decode cX3_addRecipe 34 = .ok (.iastore, 1) := by decide +kernel
theorem dX3_addRecipe_35 : decode cX3_addRecipe 35 = .ok (.iinc 1 1, 3) := by decide +kernel
theorem dX3_addRecipe_38 : decode cX3_addRecipe 38 = .ok (.goto (-16), 3) := by decide +kernel
theorem dX3_addRecipe_41 : decode cX3_addRecipe 41 = .ok (.aload_n 0, 1) := by decide +kernel
theorem dX3_addRecipe_42 : decode cX3_addRecipe 42 = .ok (.aload_n 0, 1) := by decide +kernel
theorem dX3_addRecipe_43 : decode cX3_addRecipe 43 = .ok (.getfield 13, 3) := by decide +kernel
theorem dX3_addRecipe_46 : decode cX3_addRecipe 46 = .ok (.invokevirtual 69, 3) := by decide +kernel
theorem dX3_addRecipe_49 : decode cX3_addRecipe 49 = .ok (.ireturn, 1) := by decide +kernel
theorem dX3_set_0 : decode cX3_set 0 = .ok (.aload_n 0, 1) := by decide +kernel
theorem dX3_set_1 : decode cX3_set 1 = .ok (.iconst 0, 1) := by decide +kernel
theorem dX3_set_2 : decode cX3_set 2 = .ok (.putfield 26, 3) := by decide +kernel
theorem dX3_set_5 : decode cX3_set 5 = .ok (.aload_n 0, 1) := by decide +kernel
theorem dX3_set_6 : decode cX3_set 6 = .ok (.iload_n 1, 1) := by decide +kernel
theorem dX3_set_7 : decode cX3_set 7 = .ok (.invokevirtual 73, 3) := by decide +kernel
theorem dX3_set_10 : decode cX3_set 10 = .ok (.ifCond .eq 13, 3) := by decide +kernel
theorem dX3_set_13 : decode cX3_set 13 = .ok (.iload_n 2, 1) := by decide +kernel
theorem dX3_set_14 : decode cX3_set 14 = .ok (.iconst 0, 1) := by decide +kernel
theorem dX3_set_15 : decode cX3_set 15 = .ok (.bipush 8, 2) := by decide +kernel
theorem dX3_set_17 : decode cX3_set 17 = .ok (.invokestatic 33, 3) := by decide +kernel
theorem dX3_set_20 : decode cX3_set 20 = .ok (.ifCond .ne 9, 3) := by decide +kernel
theorem dX3_set_23 : decode cX3_set 23 = .ok (.aload_n 0, 1) := by decide +kernel
theorem dX3_set_24 : decode cX3_set 24 = .ok (.iconst 1, 1) := by decide +kernel
theorem dX3_set_25 : decode cX3_set 25 = .ok (.invokevirtual 66, 3) := by decide +kernel
theorem dX3_set_28 : decode cX3_set 28 = .ok (.ireturn, 1) := by decide +kernel
theorem dX3_set_29 : decode cX3_set 29 = .ok (.iload_n 3, 1) := by decide +kernel
theorem dX3_set_30 : decode cX3_set 30 = .ok (.sipush (-999), 3) := by decide +kernel
theorem dX3_set_33 : decode cX3_set 33 = .ok (.sipush 999, 3) := by decide +kernel
theorem dX3_set_36 : decode cX3_set 36 = .ok (.invokestatic 33, 3) := by decide +kernel
theorem dX3_set_39 : decode cX3_set 39 = .ok (.ifCond .ne 9, 3) := by decide +kernel
theorem dX3_set_42 : decode cX3_set 42 = .ok (.aload_n 0, 1) := by decide +kernel
theorem dX3_set_43 : decode cX3_set 43 = .ok (.iconst 2, 1) := by decide +kernel
theorem dX3_set_44 : decode cX3_set 44 = .ok (.invokevirtual 66, 3) := by decide +kernel
theorem dX3_set_47 : decode cX3_set 47 = .ok (.ireturn, 1) := by decide +kernel
theorem dX3_set_48 : decode cX3_set 48 = .ok (.aload_n 0, 1) := by decide +kernel
theorem dX3_set_49 : decode cX3_set 49 = .ok (.iload_n 1, 1) := by decide +kernel
theorem dX3_set_50 : decode cX3_set 50 = .ok (.iload_n 2, 1) := by decide +kernel
theorem dX3_set_51 : decode cX3_set 51 = .ok (.invokevirtual 47, 3) := by decide +kernel
theorem dX3_set_54 : decode cX3_set 54 = .ok (.istore 4, 2) := by decide +kernel
theorem dX3_set_56 : decode cX3_set 56 = .ok (.aload_n 0, 1) := by decide +kernel
theorem dX3_set_57 : decode cX3_set 57 = .ok (.getfield 9, 3) := by decide +kernel
theorem dX3_set_60 : decode cX3_set 60 = .ok (.bipush 9, 2) := by decide +kernel
theorem dX3_set_62 : decode cX3_set 62 = .ok (.iload_n 1, 1) := by decide +kernel
theorem dX3_set_63 : decode cX3_set 63 = .ok (.imul, 1) := by decide +kernel
theorem dX3_set_64 : decode cX3_set 64 = .ok (.iload_n 2, 1) := by decide +kernel
theorem dX3_set_65 : decode cX3_set 65 = .ok (.iadd, 1) := by decide +kernel
theorem dX3_set_66 : decode cX3_set 66 = .ok (.iload_n 3, 1) := by decide +kernel
theorem dX3_set_67 : decode cX3_set 67 = .ok (.iastore, 1) := by decide +kernel
theorem dX3_set_68 : decode cX3_set 68 = .ok (.iload 4, 2) := by decide +kernel
theorem dX3_set_70 : decode cX3_set 70 = .ok (.ireturn, 1) := by decide +kernel
theorem dX3_drop_0 : decode cX3_drop 0 = .ok (.aload_n 0, 1) := by decide +kernel
theorem dX3_drop_1 : decode cX3_drop 1 = .ok (.iconst 0, 1) := by decide +kernel
theorem dX3_drop_2 : decode cX3_drop 2 = .ok (.putfield 26, 3) := by decide +kernel
theorem dX3_drop_5 : decode cX3_drop 5 = .ok (.aload_n 0, 1) := by decide +kernel
theorem dX3_drop_6 : decode cX3_drop 6 = .ok (.iload_n 1, 1) := by decide +kernel
theorem dX3_drop_7 : decode cX3_drop 7 = .ok (.invokevirtual 73, 3) := by decide +kernel
theorem dX3_drop_10 : decode cX3_drop 10 = .ok (.ifCond .ne 9, 3) := by decide +kernel
theorem dX3_drop_13 : decode cX3_drop 13 = .ok (.aload_n 0, 1) := by decide +kernel
theorem dX3_drop_14 : decode cX3_drop 14 = .ok (.iconst 1, 1) := by decide +kernel
theorem dX3_drop_15 : decode cX3_drop 15 = .ok (.invokevirtual 66, 3) := by decide +kernel
theorem dX3_drop_18 : decode cX3_drop 18 = .ok (.ireturn, 1) := by decide +kernel
theorem dX3_drop_19 : decode cX3_drop 19 = .ok (.aload_n 0, 1) := by decide +kernel
theorem dX3_drop_20 : decode cX3_drop 20 = .ok (.iload_n 1, 1) := by decide +kernel
theorem dX3_drop_21 : decode cX3_drop 21 = .ok (.invokevirtual 51, 3) := by decide +kernel
theorem dX3_drop_24 : decode cX3_drop 24 = .ok (.istore_n 2, 1) := by decide +kernel
theorem dX3_drop_25 : decode cX3_drop 25 = .ok (.aload_n 0, 1) := by decide +kernel
theorem dX3_drop_26 : decode cX3_drop 26 = .ok (.dup, 1) := by decide +kernel
theorem dX3_drop_27 : decode cX3_drop 27 = .ok (.getfield 30, 3) := by decide +kernel
theorem dX3_drop_30 : decode cX3_drop 30 = .ok (.iconst 1, 1) := by decide +kernel
theorem dX3_drop_31 : decode cX3_drop 31 = .ok (.isub, 1) := by decide +kernel
theorem dX3_drop_32 : decode cX3_drop 32 = .ok (.putfield 30, 3) := by decide +kernel
theorem dX3_drop_35 : decode cX3_drop 35 = .ok (.aload_n 0, 1) := by decide +kernel
theorem dX3_drop_36 : decode cX3_drop 36 = .ok (.getfield 9, 3) := by decide +kernel
theorem dX3_drop_39 : decode cX3_drop 39 = .ok (.bipush 9, 2) := by decide +kernel
theorem dX3_drop_41 : decode cX3_drop 41 = .ok (.iload_n 1, 1) := by decide +kernel
theorem dX3_drop_42 : decode cX3_drop 42 = .ok (.iconst 1, 1) := by decide +kernel
theorem dX3_drop_43 : decode cX3_drop 43 = .ok (.iadd, 1) := by decide +kernel
theorem dX3_drop_44 : decode cX3_drop 44 = .ok (.imul, 1) := by decide +kernel
theorem dX3_drop_45 : decode cX3_drop 45 = .ok (.aload_n 0, 1) := by decide +kernel
theorem dX3_drop_46 : decode cX3_drop 46 = .ok (.getfield 9, 3) := by decide +kernel
theorem dX3_drop_49 : decode cX3_drop 49 = .ok (.bipush 9, 2) := by decide +kernel
theorem dX3_drop_51 : decode cX3_drop 51 = .ok (.iload_n 1, 1) := by decide +kernel
theorem dX3_drop_52 : decode cX3_drop 52 = .ok (.imul, 1) := by decide +kernel
theorem dX3_drop_53 : decode cX3_drop 53 = .ok (.bipush 9, 2) := by decide +kernel
theorem dX3_drop_55 : decode cX3_drop 55 = .ok (.aload_n 0, 1) := by decide +kernel
theorem dX3_drop_56 : decode cX3_drop 56 = .ok (.getfield 30, 3) := by decide +kernel
theorem dX3_drop_59 : decode cX3_drop 59 = .ok (.iload_n 1, 1) := by decide +kernel
theorem dX3_drop_60 : decode cX3_drop 60 = .ok (.isub, 1) := by decide +kernel
theorem dX3_drop_61 : decode cX3_drop 61 = .ok (.imul, 1) := by decide +kernel
theorem dX3_drop_62 : decode cX3_drop 62 = .ok (.invokestatic 37, 3) := by decide +kernel
theorem dX3_drop_65 : decode cX3_drop 65 = .ok (.iload_n 2, 1) := by decide +kernel
theorem dX3_drop_66 : decode cX3_drop 66 = .ok (.ireturn, 1) := by decide +kernel
theorem dX3_scale_0 : decode cX3_scale 0 = .ok (.aload_n 0, 1) := by decide +kernel
theorem dX3_scale_1 : decode cX3_scale 1 = .ok (.iconst 0, 1) := by decide +kernel
theorem dX3_scale_2 : decode cX3_scale 2 = .ok (.putfield 26, 3) := by decide +kernel
theorem dX3_scale_5 : decode cX3_scale 5 = .ok (.aload_n 0, 1) := by decide +kernel
theorem dX3_scale_6 : decode cX3_scale 6 = .ok (.iload_n 1, 1) := by decide +kernel
theorem dX3_scale_7 : decode cX3_scale 7 = .ok (.invokevirtual 73, 3) := by decide +kernel
theorem dX3_scale_10 : decode cX3_scale 10 = .ok (.ifCond .ne 9, 3) := by decide +kernel
theorem dX3_scale_13 : decode cX3_scale 13 = .ok (.aload_n 0, 1) := by decide +kernel
theorem dX3_scale_14 : decode cX3_scale 14 = .ok (.iconst 1, 1) := by decide +kernel
theorem dX3_scale_15 : decode cX3_scale 15 = .ok (.invokevirtual 66, 3) := by decide +kernel
theorem dX3_scale_18 : decode cX3_scale 18 = .ok (.ireturn, 1) := by decide +kernel
theorem dX3_scale_19 : decode cX3_scale 19 = .ok (.iconst 0, 1) := by decide +kernel
theorem dX3_scale_20 : decode cX3_scale 20 = .ok (.istore_n 3, 1) := by decide +kernel
theorem dX3_scale_21 : decode cX3_scale 21 = .ok (.iload_n 3, 1) := by decide +kernel
theorem dX3_scale_22 : decode cX3_scale 22 = .ok (.bipush 9, 2) := by decide +kernel
theorem dX3_scale_24 : decode cX3_scale 24 = .ok (.if_icmp .ge 24, 3) := by decide +kernel
theorem dX3_scale_27 : decode cX3_scale 27 = .ok (.aload_n 0, 1) := by decide +kernel
theorem dX3_scale_28 : decode cX3_scale 28 = .ok (.getfield 9, 3) := by decide +kernel
theorem dX3_scale_31 : decode cX3_scale 31 = .ok (.bipush 9, 2) := by decide +kernel
theorem dX3_scale_33 : decode cX3_scale 33 = .ok (.iload_n 1, 1) := by decide +kernel
theorem dX3_scale_34 : decode cX3_scale 34 = .ok (.imul, 1) := by decide +kernel
theorem dX3_scale_35 : decode cX3_scale 35 = .ok (.iload_n 3, 1) := by decide +kernel
theorem dX3_scale_36 : decode cX3_scale 36 = .ok (.iadd, 1) := by decide +kernel
theorem dX3_scale_37 : decode cX3_scale 37 = .ok (.dup2, 1) := by decide +kernel
theorem dX3_scale_38 : decode cX3_scale 38 = .ok (.iaload, 1) := by decide +kernel
theorem dX3_scale_39 : decode cX3_scale 39 = .ok (.iload_n 2, 1) := by decide +kernel
theorem dX3_scale_40 : decode cX3_scale 40 = .ok (.imul, 1) := by decide +kernel
theorem dX3_scale_41 : decode cX3_scale 41 = .ok (.iastore, 1) := by decide +kernel
theorem dX3_scale_42 : decode cX3_scale 42 = .ok (.iinc 3 1, 3) := by decide +kernel
theorem dX3_scale_45 : decode cX3_scale 45 = .ok (.goto (-24), 3) := by decide +kernel
theorem dX3_scale_48 : decode cX3_scale 48 = .ok (.aload_n 0, 1) := by decide +kernel
theorem dX3_scale_49 : decode cX3_scale 49 = .ok (.iload_n 1, 1) := by decide +kernel
theorem dX3_scale_50 : decode cX3_scale 50 = .ok (.invokevirtual 51, 3) := by decide +kernel
theorem dX3_scale_53 : decode cX3_scale 53 = .ok (.ireturn, 1) := by decide +kernel
theorem dX3_shift_0 : decode cX3_shift 0 = .ok (.aload_n 0, 1) := by decide +kernel
theorem dX3_shift_1 : decode cX3_shift 1 = .ok (.iconst 0, 1) := by decide +kernel
theorem dX3_shift_2 : decode cX3_shift 2 = .ok (.putfield 26, 3) := by decide +kernel
theorem dX3_shift_5 : decode cX3_shift 5 = .ok (.aload_n 0, 1) := by decide +kernel
theorem dX3_shift_6 : decode cX3_shift 6 = .ok (.iload_n 1, 1) := by decide +kernel
theorem dX3_shift_7 : decode cX3_shift 7 = .ok (.invokevirtual 73, 3) := by decide +kernel
theorem dX3_shift_10 : decode cX3_shift 10 = .ok (.ifCond .ne 9, 3) := by decide +kernel
theorem dX3_shift_13 : decode cX3_shift 13 = .ok (.aload_n 0, 1) := by decide +kernel
theorem dX3_shift_14 : decode cX3_shift 14 = .ok (.iconst 1, 1) := by decide +kernel
theorem dX3_shift_15 : decode cX3_shift 15 = .ok (.invokevirtual 66, 3) := by decide +kernel
theorem dX3_shift_18 : decode cX3_shift 18 = .ok (.ireturn, 1) := by decide +kernel
theorem dX3_shift_19 : decode cX3_shift 19 = .ok (.iload_n 2, 1) := by decide +kernel
theorem dX3_shift_20 : decode cX3_shift 20 = .ok (.bipush (-20), 2) := by decide +kernel
theorem dX3_shift_22 : decode cX3_shift 22 = .ok (.bipush 20, 2) := by decide +kernel
theorem dX3_shift_24 : decode cX3_shift 24 = .ok (.invokestatic 33, 3) := by decide +kernel
theorem dX3_shift_27 : decode cX3_shift 27 = .ok (.ifCond .ne 9, 3) := by decide +kernel
theorem dX3_shift_30 : decode cX3_shift 30 = .ok (.aload_n 0, 1) := by decide +kernel
theorem dX3_shift_31 : decode cX3_shift 31 = .ok (.iconst 2, 1) := by decide +kernel
theorem dX3_shift_32 : decode cX3_shift 32 = .ok (.invokevirtual 66, 3) := by decide +kernel
theorem dX3_shift_35 : decode cX3_shift 35 = .ok (.ireturn, 1) := by decide +kernel
theorem dX3_shift_36 : decode cX3_shift 36 = .ok (.aload_n 0, 1) := by decide +kernel
theorem dX3_shift_37 : decode cX3_shift 37 = .ok (.iload_n 1, 1) := by decide +kernel
theorem dX3_shift_38 : decode cX3_shift 38 = .ok (.aload_n 0, 1) := by decide +kernel
theorem dX3_shift_39 : decode cX3_shift 39 = .ok (.getfield 13, 3) := by decide +kernel
theorem dX3_shift_42 : decode cX3_shift 42 = .ok (.invokevirtual 55, 3) := by decide +kernel
theorem dX3_shift_45 : decode cX3_shift 45 = .ok (.aload_n 0, 1) := by decide +kernel
theorem dX3_shift_46 : decode cX3_shift 46 = .ok (.getfield 13, 3) := by decide +kernel
theorem dX3_shift_49 : decode cX3_shift 49 = .ok (.iload_n 2, 1) := by decide +kernel
theorem dX3_shift_50 : decode cX3_shift 50 = .ok (.invokestatic 77, 3) := by decide +kernel
theorem dX3_shift_53 : decode cX3_shift 53 = .ok (.aload_n 0, 1) := by decide +kernel
theorem dX3_shift_54 : decode cX3_shift 54 = .ok (.iload_n 1, 1) := by decide +kernel
theorem dX3_shift_55 : decode cX3_shift 55 = .ok (.aload_n 0, 1) := by decide +kernel
theorem dX3_shift_56 : decode cX3_shift 56 = .ok (.getfield 13, 3) := by decide +kernel
theorem dX3_shift_59 : decode cX3_shift 59 = .ok (.invokevirtual 43, 3) := by decide +kernel
theorem dX3_shift_62 : decode cX3_shift 62 = .ok (.aload_n 0, 1) := by decide +kernel
theorem dX3_shift_63 : decode cX3_shift 63 = .ok (.iload_n 1, 1) := by decide +kernel
theorem dX3_shift_64 : decode cX3_shift 64 = .ok (.iconst 0, 1) := by decide +kernel
theorem dX3_shift_65 : decode cX3_shift 65 = .ok (.invokevirtual 47, 3) := by decide +kernel
theorem dX3_shift_68 : decode cX3_shift 68 = .ok (.ireturn, 1) := by decide +kernel
theorem dX3_joined_0 : decode cX3_joined 0 = .ok (.aload_n 0, 1) := by decide +kernel
theorem dX3_joined_1 : decode cX3_joined 1 = .ok (.iconst 0, 1) := by decide +kernel
theorem dX3_joined_2 : decode cX3_joined 2 = .ok (.putfield 26, 3) := by decide +kernel
theorem dX3_joined_5 : decode cX3_joined 5 = .ok (.aload_n 0, 1) := by decide +kernel
theorem dX3_joined_6 : decode cX3_joined 6 = .ok (.iload_n 1, 1) := by decide +kernel
theorem dX3_joined_7 : decode cX3_joined 7 = .ok (.invokevirtual 73, 3) := by decide +kernel
theorem dX3_joined_10 : decode cX3_joined 10 = .ok (.ifCond .eq 11, 3) := by decide +kernel
theorem dX3_joined_13 : decode cX3_joined 13 = .ok (.aload_n 0, 1) := by decide +kernel
theorem dX3_joined_14 : decode cX3_joined 14 = .ok (.iload_n 2, 1) := by decide +kernel
theorem dX3_joined_15 : decode cX3_joined 15 = .ok (.invokevirtual 73, 3) := by decide +kernel
theorem dX3_joined_18 : decode cX3_joined 18 = .ok (.ifCond .ne 9, 3) := by decide +kernel
theorem dX3_joined_21 : decode cX3_joined 21 = .ok (.aload_n 0, 1) := by decide +kernel
theorem dX3_joined_22 : decode cX3_joined 22 = .ok (.iconst 1, 1) := by decide +kernel
theorem dX3_joined_23 : decode cX3_joined 23 = .ok (.invokevirtual 66, 3) := by decide +kernel
theorem dX3_joined_26 : decode cX3_joined 26 = .ok (.ireturn, 1) := by decide +kernel
theorem dX3_joined_27 : decode cX3_joined 27 = .ok (.aload_n 0, 1) := by decide +kernel
theorem dX3_joined_28 : decode cX3_joined 28 = .ok (.getfield 30, 3) := by decide +kernel
theorem dX3_joined_31 : decode cX3_joined 31 = .ok (.bipush 16, 2) := by decide +kernel
theorem dX3_joined_33 : decode cX3_joined 33 = .ok (.if_icmp .ne 9, 3) := by decide +kernel
theorem dX3_joined_36 : decode cX3_joined 36 = .ok (.aload_n 0, 1) := by decide +kernel
theorem dX3_joined_37 : decode cX3_joined 37 = .ok (.iconst 2, 1) := by decide +kernel
theorem dX3_joined_38 : decode cX3_joined 38 = .ok (.invokevirtual 66, 3) := by decide +kernel
theorem dX3_joined_41 : decode cX3_joined 41 = .ok (.ireturn, 1) := by decide +kernel
theorem dX3_joined_42 : decode cX3_joined 42 = .ok (.iconst 0, 1) := by decide +kernel
theorem dX3_joined_43 : decode cX3_joined 43 = .ok (.istore 4, 2) := by decide +kernel
theorem dX3_joined_45 : decode cX3_joined 45 = .ok (.iload 4, 2) := by decide +kernel
theorem dX3_joined_47 : decode cX3_joined 47 = .ok (.bipush 9, 2) := by decide +kernel
theorem dX3_joined_49 : decode cX3_joined 49 = .ok (.if_icmp .ge 33, 3) := by decide +kernel
theorem dX3_joined_52 : decode cX3_joined 52 = .ok (.aload_n 0, 1) := by decide +kernel
theorem dX3_joined_53 : decode cX3_joined 53 = .ok (.getfield 13, 3) := by decide +kernel
theorem dX3_joined_56 : decode cX3_joined 56 = .ok (.iload 4, 2) := by decide +kernel
theorem dX3_joined_58 : decode cX3_joined 58 = .ok (.aload_n 0, 1) := by decide +kernel
theorem dX3_joined_59 : decode cX3_joined 59 = .ok (.iload_n 1, 1) := by decide +kernel
theorem dX3_joined_60 : decode cX3_joined 60 = .ok (.iload 4, 2) := by decide +kernel
theorem dX3_joined_62 : decode cX3_joined 62 = .ok (.invokevirtual 47, 3) := by decide +kernel
theorem dX3_joined_65 : decode cX3_joined 65 = .ok (.iload_n 3, 1) := by decide +kernel
theorem dX3_joined_66 : decode cX3_joined 66 = .ok (.aload_n 0, 1) := by decide +kernel
theorem dX3_joined_67 : decode cX3_joined 67 = .ok (.iload_n 2, 1) := by decide +kernel
theorem dX3_joined_68 : decode cX3_joined 68 = .ok (.iload 4, 2) := by decide +kernel
theorem dX3_joined_70 : decode cX3_joined 70 = .ok (.invokevirtual 47, 3) := by decide +kernel
theorem dX3_joined_73 : decode cX3_joined 73 = .ok (.imul, 1) := by decide +kernel
theorem dX3_joined_74 : decode cX3_joined 74 = .ok (.iadd, 1) := by decide +kernel
theorem dX3_joined_75 : decode cX3_joined 75 = .ok (.iastore, 1) := by decide +kernel
theorem dX3_joined_76 : decode cX3_joined 76 = .ok (.iinc 4 1, 3) := by decide +kernel
theorem dX3_joined_79 : decode cX3_joined 79 = .ok (.goto (-34), 3) := by decide +kernel
theorem dX3_joined_82 : decode cX3_joined 82 = .ok (.aload_n 0, 1) := by decide +kernel
theorem dX3_joined_83 : decode cX3_joined 83 = .ok (.aload_n 0, 1) := by decide +kernel
theorem dX3_joined_84 : decode cX3_joined 84 = .ok (.getfield 13, 3) := by decide +kernel
theorem dX3_joined_87 : decode cX3_joined 87 = .ok (.invokevirtual 69, 3) := by decide +kernel
theorem dX3_joined_90 : decode cX3_joined 90 = .ok (.ireturn, 1) := by decide +kernel
theorem dX3_sum_0 : decode cX3_sum 0 = .ok (.aload_n 0, 1) := by decide +kernel
theorem dX3_sum_1 : decode cX3_sum 1 = .ok (.iload_n 1, 1) := by decide +kernel
theorem dX3_sum_2 : decode cX3_sum 2 = .ok (.iload_n 2, 1) := by decide +kernel
theorem dX3_sum_3 : decode cX3_sum 3 = .ok (.iconst 1, 1) := by decide +kernel
theorem dX3_sum_4 : decode cX3_sum 4 = .ok (.invokevirtual 81, 3) := by decide +kernel
theorem dX3_sum_7 : decode cX3_sum 7 = .ok (.ireturn, 1) := by decide +kernel
theorem dX3_difference_0 : decode cX3_difference 0 = .ok (.aload_n 0, 1) := by decide +kernel
theorem dX3_difference_1 : decode cX3_difference 1 = .ok (.iload_n 1, 1) := by decide +kernel
theorem dX3_difference_2 : decode cX3_difference 2 = .ok (.iload_n 2, 1) := by decide +kernel
theorem dX3_difference_3 : decode cX3_difference 3 = .ok (.iconst (-1), 1) := by decide +kernel
theorem dX3_difference_4 : decode cX3_difference 4 = .ok (.invokevirtual 81, 3) := by decide +kernel
theorem dX3_difference_7 : decode cX3_difference 7 = .ok (.ireturn, 1) := by decide +kernel
theorem dX3_product_0 : decode cX3_product 0 = .ok (.aload_n 0, 1) := by decide +kernel
theorem dX3_product_1 : decode cX3_product 1 = .ok (.iconst 0, 1) := by decide +kernel
theorem dX3_product_2 : decode cX3_product 2 = .ok (.putfield 26, 3) := by decide +kernel
theorem dX3_product_5 : decode cX3_product 5 = .ok (.aload_n 0, 1) := by decide +kernel
theorem dX3_product_6 : decode cX3_product 6 = .ok (.iload_n 1, 1) := by decide +kernel
theorem dX3_product_7 : decode cX3_product 7 = .ok (.invokevirtual 73, 3) := by decide +kernel
theorem dX3_product_10 : decode cX3_product 10 = .ok (.ifCond .eq 11, 3) := by decide +kernel
theorem dX3_product_13 : decode cX3_product 13 = .ok (.aload_n 0, 1) := by decide +kernel
theorem dX3_product_14 : decode cX3_product 14 = .ok (.iload_n 2, 1) := by decide +kernel
theorem dX3_product_15 : decode cX3_product 15 = .ok (.invokevirtual 73, 3) := by decide +kernel
theorem dX3_product_18 : decode cX3_product 18 = .ok (.ifCond .ne 9, 3) := by decide +kernel
theorem dX3_product_21 : decode cX3_product 21 = .ok (.aload_n 0, 1) := by decide +kernel
theorem dX3_product_22 : decode cX3_product 22 = .ok (.iconst 1, 1) := by decide +kernel
theorem dX3_product_23 : decode cX3_product 23 = .ok (.invokevirtual 66, 3) := by decide +kernel
theorem dX3_product_26 : decode cX3_product 26 = .ok (.ireturn, 1) := by decide +kernel
theorem dX3_product_27 : decode cX3_product 27 = .ok (.aload_n 0, 1) := by decide +kernel
theorem dX3_product_28 : decode cX3_product 28 = .ok (.iload_n 1, 1) := by decide +kernel
theorem dX3_product_29 : decode cX3_product 29 = .ok (.invokevirtual 51, 3) := by decide +kernel
theorem dX3_product_32 : decode cX3_product 32 = .ok (.aload_n 0, 1) := by decide +kernel
theorem dX3_product_33 : decode cX3_product 33 = .ok (.iload_n 2, 1) := by decide +kernel
theorem dX3_product_34 : decode cX3_product 34 = .ok (.invokevirtual 51, 3) := by decide +kernel
theorem dX3_product_37 : decode cX3_product 37 = .ok (.iadd, 1) := by decide +kernel
theorem dX3_product_38 : decode cX3_product 38 = .ok (.bipush 8, 2) := by decide +kernel
theorem dX3_product_40 : decode cX3_product 40 = .ok (.if_icmp .le 9, 3) := by decide +kernel
theorem dX3_product_43 : decode cX3_product 43 = .ok (.aload_n 0, 1) := by decide +kernel
theorem dX3_product_44 : decode cX3_product 44 = .ok (.iconst 2, 1) := by decide +kernel
theorem dX3_product_45 : decode cX3_product 45 = .ok (.invokevirtual 66, 3) := by decide +kernel
theorem dX3_product_48 : decode cX3_product 48 = .ok (.ireturn, 1) := by decide +kernel
theorem dX3_product_49 : decode cX3_product 49 = .ok (.aload_n 0, 1) := by decide +kernel
theorem dX3_product_50 : decode cX3_product 50 = .ok (.getfield 30, 3) := by decide +kernel
theorem dX3_product_53 : decode cX3_product 53 = .ok (.bipush 16, 2) := by decide +kernel
theorem dX3_product_55 : decode cX3_product 55 = .ok (.if_icmp .ne 9, 3) := by decide +kernel
theorem dX3_product_58 : decode cX3_product 58 = .ok (.aload_n 0, 1) := by decide +kernel
theorem dX3_product_59 : decode cX3_product 59 = .ok (.iconst 3, 1) := by decide +kernel
theorem dX3_product_60 : decode cX3_product 60 = .ok (.invokevirtual 66, 3) := by decide +kernel
theorem dX3_product_63 : decode cX3_product 63 = .ok (.ireturn, 1) := by decide +kernel
theorem dX3_product_64 : decode cX3_product 64 = .ok (.aload_n 0, 1) := by decide +kernel
theorem dX3_product_65 : decode cX3_product 65 = .ok (.iload_n 1, 1) := by decide +kernel
theorem dX3_product_66 : decode cX3_product 66 = .ok (.aload_n 0, 1) := by decide +kernel
theorem dX3_product_67 : decode cX3_product 67 = .ok (.getfield 13, 3) := by decide +kernel
theorem dX3_product_70 : decode cX3_product 70 = .ok (.invokevirtual 55, 3) := by decide +kernel
theorem dX3_product_73 : decode cX3_product 73 = .ok (.aload_n 0, 1) := by decide +kernel
theorem dX3_product_74 : decode cX3_product 74 = .ok (.aload_n 0, 1) := by decide +kernel
theorem dX3_product_75 : decode cX3_product 75 = .ok (.getfield 13, 3) := by decide +kernel
theorem dX3_product_78 : decode cX3_product 78 = .ok (.iload_n 2, 1) := by decide +kernel
theorem dX3_product_79 : decode cX3_product 79 = .ok (.invokevirtual 85, 3) := by decide +kernel
theorem dX3_product_82 : decode cX3_product 82 = .ok (.aload_n 0, 1) := by decide +kernel
theorem dX3_product_83 : decode cX3_product 83 = .ok (.aload_n 0, 1) := by decide +kernel
theorem dX3_product_84 : decode cX3_product 84 = .ok (.getfield 13, 3) := by decide +kernel
theorem dX3_product_87 : decode cX3_product 87 = .ok (.invokevirtual 69, 3) := by decide +kernel
theorem dX3_product_90 : decode cX3_product 90 = .ok (.ireturn, 1) := by decide +kernel
theorem dX3_chain_0 : decode cX3_chain 0 = .ok (.aload_n 0, 1) := by decide +kernel
theorem dX3_chain_1 : decode cX3_chain 1 = .ok (.iconst 0, 1) := by decide +kernel
theorem dX3_chain_2 : decode cX3_chain 2 = .ok (.putfield 26, 3) := by decide +kernel
theorem dX3_chain_5 : decode cX3_chain 5 = .ok (.aload_n 0, 1) := by decide +kernel
theorem dX3_chain_6 : decode cX3_chain 6 = .ok (.iload_n 1, 1) := by decide +kernel
theorem dX3_chain_7 : decode cX3_chain 7 = .ok (.invokevirtual 73, 3) := by decide +kernel
theorem dX3_chain_10 : decode cX3_chain 10 = .ok (.ifCond .eq 11, 3) := by decide +kernel
theorem dX3_chain_13 : decode cX3_chain 13 = .ok (.aload_n 0, 1) := by decide +kernel
theorem dX3_chain_14 : decode cX3_chain 14 = .ok (.iload_n 2, 1) := by decide +kernel
theorem dX3_chain_15 : decode cX3_chain 15 = .ok (.invokevirtual 73, 3) := by decide +kernel
theorem dX3_chain_18 : decode cX3_chain 18 = .ok (.ifCond .ne 9, 3) := by decide +kernel
theorem dX3_chain_21 : decode cX3_chain 21 = .ok (.aload_n 0, 1) := by decide +kernel
theorem dX3_chain_22 : decode cX3_chain 22 = .ok (.iconst 1, 1) := by decide +kernel
theorem dX3_chain_23 : decode cX3_chain 23 = .ok (.invokevirtual 66, 3) := by decide +kernel
theorem dX3_chain_26 : decode cX3_chain 26 = .ok (.ireturn, 1) := by decide +kernel
theorem dX3_chain_27 : decode cX3_chain 27 = .ok (.aload_n 0, 1) := by decide +kernel
theorem dX3_chain_28 : decode cX3_chain 28 = .ok (.iload_n 1, 1) := by decide +kernel
theorem dX3_chain_29 : decode cX3_chain 29 = .ok (.invokevirtual 51, 3) := by decide +kernel
theorem dX3_chain_32 : decode cX3_chain 32 = .ok (.aload_n 0, 1) := by decide +kernel
theorem dX3_chain_33 : decode cX3_chain 33 = .ok (.iload_n 2, 1) := by decide +kernel
theorem dX3_chain_34 : decode cX3_chain 34 = .ok (.invokevirtual 51, 3) := by decide +kernel
theorem dX3_chain_37 : decode cX3_chain 37 = .ok (.imul, 1) := by decide +kernel
theorem dX3_chain_38 : decode cX3_chain 38 = .ok (.bipush 8, 2) := by decide +kernel
theorem dX3_chain_40 : decode cX3_chain 40 = .ok (.if_icmp .le 9, 3) := by decide +kernel
theorem dX3_chain_43 : decode cX3_chain 43 = .ok (.aload_n 0, 1) := by decide +kernel
theorem dX3_chain_44 : decode cX3_chain 44 = .ok (.iconst 2, 1) := by decide +kernel
theorem dX3_chain_45 : decode cX3_chain 45 = .ok (.invokevirtual 66, 3) := by decide +kernel
theorem dX3_chain_48 : decode cX3_chain 48 = .ok (.ireturn, 1) := by decide +kernel
theorem dX3_chain_49 : decode cX3_chain 49 = .ok (.aload_n 0, 1) := by decide +kernel
theorem dX3_chain_50 : decode cX3_chain 50 = .ok (.getfield 30, 3) := by decide +kernel
theorem dX3_chain_53 : decode cX3_chain 53 = .ok (.bipush 16, 2) := by decide +kernel
theorem dX3_chain_55 : decode cX3_chain 55 = .ok (.if_icmp .ne 9, 3) := by decide +kernel
theorem dX3_chain_58 : decode cX3_chain 58 = .ok (.aload_n 0, 1) := by decide +kernel
theorem dX3_chain_59 : decode cX3_chain 59 = .ok (.iconst 3, 1) := by decide +kernel
theorem dX3_chain_60 : decode cX3_chain 60 = .ok (.invokevirtual 66, 3) := by decide +kernel
theorem dX3_chain_63 : decode cX3_chain 63 = .ok (.ireturn, 1) := by decide +kernel
theorem dX3_chain_64 : decode cX3_chain 64 = .ok (.iconst 0, 1) := by decide +kernel
theorem dX3_chain_65 : decode cX3_chain 65 = .ok (.istore_n 3, 1) := by decide +kernel
theorem dX3_chain_66 : decode cX3_chain 66 = .ok (.iload_n 3, 1) := by decide +kernel
theorem dX3_chain_67 : decode cX3_chain 67 = .ok (.bipush 9, 2) := by decide +kernel
theorem dX3_chain_69 : decode cX3_chain 69 = .ok (.if_icmp .ge 16, 3) := by decide +kernel
theorem dX3_chain_72 : decode cX3_chain 72 = .ok (.aload_n 0, 1) := by decide +kernel
theorem dX3_chain_73 : decode cX3_chain 73 = .ok (.getfield 13, 3) := by decide +kernel
theorem dX3_chain_76 : decode cX3_chain 76 = .ok (.iload_n 3, 1) := by decide +kernel
theorem dX3_chain_77 : decode cX3_chain 77 = .ok (.iconst 0, 1) := by decide +kernel
theorem dX3_chain_78 : decode cX3_chain 78 = .ok (.iastore, 1) := by decide +kernel
theorem dX3_chain_79 : decode cX3_chain 79 = .ok (.iinc 3 1, 3) := by decide +kernel
theorem dX3_chain_82 : decode cX3_chain 82 = .ok (.goto (-16), 3) := by decide +kernel
theorem dX3_chain_85 : decode cX3_chain 85 = .ok (.bipush 8, 2) := by decide +kernel
theorem dX3_chain_87 : decode cX3_chain 87 = .ok (.istore_n 3, 1) := by decide +kernel
theorem dX3_chain_88 : decode cX3_chain 88 = .ok (.iload_n 3, 1) := by decide +kernel
theorem dX3_chain_89 : decode cX3_chain 89 = .ok (.ifCond .lt 33, 3) := by decide +kernel
theorem dX3_chain_92 : decode cX3_chain 92 = .ok (.aload_n 0, 1) := by decide +kernel
theorem dX3_chain_93 : decode cX3_chain 93 = .ok (.aload_n 0, 1) := by decide +kernel
theorem dX3_chain_94 : decode cX3_chain 94 = .ok (.getfield 13, 3) := by decide +kernel
theorem dX3_chain_97 : decode cX3_chain 97 = .ok (.iload_n 2, 1) := by decide +kernel
theorem dX3_chain_98 : decode cX3_chain 98 = .ok (.invokevirtual 85, 3) := by decide +kernel
theorem dX3_chain_101 : decode cX3_chain 101 = .ok (.aload_n 0, 1) := by decide +kernel
theorem dX3_chain_102 : decode cX3_chain 102 = .ok (.getfield 13, 3) := by decide +kernel
theorem dX3_chain_105 : decode cX3_chain 105 = .ok (.iconst 0, 1) := by decide +kernel
theorem dX3_chain_106 : decode cX3_chain 106 = .ok (.dup2, 1) := by decide +kernel
theorem dX3_chain_107 : decode cX3_chain 107 = .ok (.iaload, 1) := by decide +kernel
theorem dX3_chain_108 : decode cX3_chain 108 = .ok (.aload_n 0, 1) := by decide +kernel
theorem dX3_chain_109 : decode cX3_chain 109 = .ok (.iload_n 1, 1) := by decide +kernel
theorem dX3_chain_110 : decode cX3_chain 110 = .ok (.iload_n 3, 1) := by decide +kernel
theorem dX3_chain_111 : decode cX3_chain 111 = .ok (.invokevirtual 47, 3) := by decide +kernel
theorem dX3_chain_114 : decode cX3_chain 114 = .ok (.iadd, 1) := by decide +kernel
theorem dX3_chain_115 : decode cX3_chain 115 = .ok (.iastore, 1) := by decide +kernel
theorem dX3_chain_116 : decode cX3_chain 116 = .ok (.iinc 3 (-1), 3) := by decide +kernel
theorem dX3_chain_119 : decode cX3_chain 119 = .ok (.goto (-31), 3) := by decide +kernel
theorem dX3_chain_122 : decode cX3_chain 122 = .ok (.aload_n 0, 1) := by decide +kernel
theorem dX3_chain_123 : decode cX3_chain 123 = .ok (.aload_n 0, 1) := by decide +kernel
theorem dX3_chain_124 : decode cX3_chain 124 = .ok (.getfield 13, 3) := by decide +kernel
theorem dX3_chain_127 : decode cX3_chain 127 = .ok (.invokevirtual 69, 3) := by decide +kernel
theorem dX3_chain_130 : decode cX3_chain 130 = .ok (.ireturn, 1) := by decide +kernel
theorem dX3_derive_0 : decode cX3_derive 0 = .ok (.aload_n 0, 1) := by decide +kernel
theorem dX3_derive_1 : decode cX3_derive 1 = .ok (.iconst 0, 1) := by decide +kernel
theorem dX3_derive_2 : decode cX3_derive 2 = .ok (.putfield 26, 3) := by decide +kernel
theorem dX3_derive_5 : decode cX3_derive 5 = .ok (.aload_n 0, 1) := by decide +kernel
theorem dX3_derive_6 : decode cX3_derive 6 = .ok (.iload_n 1, 1) := by decide +kernel
theorem dX3_derive_7 : decode cX3_derive 7 = .ok (.invokevirtual 73, 3) := by decide +kernel
theorem dX3_derive_10 : decode cX3_derive 10 = .ok (.ifCond .ne 9, 3) := by decide +kernel
theorem dX3_derive_13 : decode cX3_derive 13 = .ok (.aload_n 0, 1) := by decide +kernel
theorem dX3_derive_14 : decode cX3_derive 14 = .ok (.iconst 1, 1) := by decide +kernel
theorem dX3_derive_15 : decode cX3_derive 15 = .ok (.invokevirtual 66, 3) := by decide +kernel
theorem dX3_derive_18 : decode cX3_derive 18 = .ok (.ireturn, 1) := by decide +kernel
theorem dX3_derive_19 : decode cX3_derive 19 = .ok (.aload_n 0, 1) := by decide +kernel
theorem dX3_derive_20 : decode cX3_derive 20 = .ok (.getfield 30, 3) := by decide +kernel
theorem dX3_derive_23 : decode cX3_derive 23 = .ok (.bipush 16, 2) := by decide +kernel
theorem dX3_derive_25 : decode cX3_derive 25 = .ok (.if_icmp .ne 9, 3) := by decide +kernel
theorem dX3_derive_28 : decode cX3_derive 28 = .ok (.aload_n 0, 1) := by decide +kernel
theorem dX3_derive_29 : decode cX3_derive 29 = .ok (.iconst 2, 1) := by decide +kernel
theorem dX3_derive_30 : decode cX3_derive 30 = .ok (.invokevirtual 66, 3) := by decide +kernel
theorem dX3_derive_33 : decode cX3_derive 33 = .ok (.ireturn, 1) := by decide +kernel
theorem dX3_derive_34 : decode cX3_derive 34 = .ok (.iconst 0, 1) := by decide +kernel
theorem dX3_derive_35 : decode cX3_derive 35 = .ok (.istore_n 2, 1) := by decide +kernel
theorem dX3_derive_36 : decode cX3_derive 36 = .ok (.iload_n 2, 1) := by decide +kernel
theorem dX3_derive_37 : decode cX3_derive 37 = .ok (.bipush 8, 2) := by decide +kernel
theorem dX3_derive_39 : decode cX3_derive 39 = .ok (.if_icmp .ge 27, 3) := by decide +kernel
theorem dX3_derive_42 : decode cX3_derive 42 = .ok (.aload_n 0, 1) := by decide +kernel
theorem dX3_derive_43 : decode cX3_derive 43 = .ok (.getfield 13, 3) := by decide +kernel
theorem dX3_derive_46 : decode cX3_derive 46 = .ok (.iload_n 2, 1) := by decide +kernel
theorem dX3_derive_47 : decode cX3_derive 47 = .ok (.iload_n 2, 1) := by decide +kernel
theorem dX3_derive_48 : decode cX3_derive 48 = .ok (.iconst 1, 1) := by decide +kernel
theorem dX3_derive_49 : decode cX3_derive 49 = .ok (.iadd, 1) := by decide +kernel
theorem dX3_derive_50 : decode cX3_derive 50 = .ok (.aload_n 0, 1) := by decide +kernel
theorem dX3_derive_51 : decode cX3_derive 51 = .ok (.iload_n 1, 1) := by decide +kernel
theorem dX3_derive_52 : decode cX3_derive 52 = .ok (.iload_n 2, 1) := by decide +kernel
theorem dX3_derive_53 : decode cX3_derive 53 = .ok (.iconst 1, 1) := by decide +kernel
theorem dX3_derive_54 : decode cX3_derive 54 = .ok (.iadd, 1) := by decide +kernel
theorem dX3_derive_55 : decode cX3_derive 55 = .ok (.invokevirtual 47, 3) := by decide +kernel
theorem dX3_derive_58 : decode cX3_derive 58 = .ok (.imul, 1) := by decide +kernel
theorem dX3_derive_59 : decode cX3_derive 59 = .ok (.iastore, 1) := by decide +kernel
theorem dX3_derive_60 : decode cX3_derive 60 = .ok (.iinc 2 1, 3) := by decide +kernel
theorem dX3_derive_63 : decode cX3_derive 63 = .ok (.goto (-27), 3) := by decide +kernel
theorem dX3_derive_66 : decode cX3_derive 66 = .ok (.aload_n 0, 1) := by decide +kernel
theorem dX3_derive_67 : decode cX3_derive 67 = .ok (.getfield 13, 3) := by decide +kernel
theorem dX3_derive_70 : decode cX3_derive 70 = .ok (.bipush 8, 2) := by decide +kernel
theorem dX3_derive_72 : decode cX3_derive 72 = .ok (.iconst 0, 1) := by decide +kernel
theorem dX3_derive_73 : decode cX3_derive 73 = .ok (.iastore, 1) := by decide +kernel
theorem dX3_derive_74 : decode cX3_derive 74 = .ok (.aload_n 0, 1) := by decide +kernel
theorem dX3_derive_75 : decode cX3_derive 75 = .ok (.aload_n 0, 1) := by decide +kernel
theorem dX3_derive_76 : decode cX3_derive 76 = .ok (.getfield 13, 3) := by decide +kernel
theorem dX3_derive_79 : decode cX3_derive 79 = .ok (.invokevirtual 69, 3) := by decide +kernel
theorem dX3_derive_82 : decode cX3_derive 82 = .ok (.ireturn, 1) := by decide +kernel
theorem dX3_divide_0 : decode cX3_divide 0 = .ok (.aload_n 0, 1) := by decide +kernel
theorem dX3_divide_1 : decode cX3_divide 1 = .ok (.iconst 0, 1) := by decide +kernel
theorem dX3_divide_2 : decode cX3_divide 2 = .ok (.putfield 26, 3) := by decide +kernel
theorem dX3_divide_5 : decode cX3_divide 5 = .ok (.aload_n 0, 1) := by decide +kernel
theorem dX3_divide_6 : decode cX3_divide 6 = .ok (.iload_n 1, 1) := by decide +kernel
theorem dX3_divide_7 : decode cX3_divide 7 = .ok (.invokevirtual 73, 3) := by decide +kernel
theorem dX3_divide_10 : decode cX3_divide 10 = .ok (.ifCond .eq 11, 3) := by decide +kernel
theorem dX3_divide_13 : decode cX3_divide 13 = .ok (.aload_n 0, 1) := by decide +kernel
theorem dX3_divide_14 : decode cX3_divide 14 = .ok (.iload_n 2, 1) := by decide +kernel
theorem dX3_divide_15 : decode cX3_divide 15 = .ok (.invokevirtual 73, 3) := by decide +kernel
theorem dX3_divide_18 : decode cX3_divide 18 = .ok (.ifCond .ne 9, 3) := by decide +kernel
theorem dX3_divide_21 : decode cX3_divide 21 = .ok (.aload_n 0, 1) := by decide +kernel
theorem dX3_divide_22 : decode cX3_divide 22 = .ok (.iconst 1, 1) := by decide +kernel
theorem dX3_divide_23 : decode cX3_divide 23 = .ok (.invokevirtual 66, 3) := by decide +kernel
theorem dX3_divide_26 : decode cX3_divide 26 = .ok (.ireturn, 1) := by decide +kernel
theorem dX3_divide_27 : decode cX3_divide 27 = .ok (.aload_n 0, 1) := by decide +kernel
theorem dX3_divide_28 : decode cX3_divide 28 = .ok (.iload_n 2, 1) := by decide +kernel
theorem dX3_divide_29 : decode cX3_divide 29 = .ok (.invokevirtual 88, 3) := by decide +kernel
theorem dX3_divide_32 : decode cX3_divide 32 = .ok (.ifCond .ne 9, 3) := by decide +kernel
theorem dX3_divide_35 : decode cX3_divide 35 = .ok (.aload_n 0, 1) := by decide +kernel
theorem dX3_divide_36 : decode cX3_divide 36 = .ok (.iconst 2, 1) := by decide +kernel
theorem dX3_divide_37 : decode cX3_divide 37 = .ok (.invokevirtual 66, 3) := by decide +kernel
theorem dX3_divide_40 : decode cX3_divide 40 = .ok (.ireturn, 1) := by decide +kernel
theorem dX3_divide_41 : decode cX3_divide 41 = .ok (.aload_n 0, 1) := by decide +kernel
theorem dX3_divide_42 : decode cX3_divide 42 = .ok (.getfield 30, 3) := by decide +kernel
theorem dX3_divide_45 : decode cX3_divide 45 = .ok (.bipush 14, 2) := by decide +kernel
theorem dX3_divide_47 : decode cX3_divide 47 = .ok (.if_icmp .le 9, 3) := by decide +kernel
theorem dX3_divide_50 : decode cX3_divide 50 = .ok (.aload_n 0, 1) := by decide +kernel
theorem dX3_divide_51 : decode cX3_divide 51 = .ok (.iconst 3, 1) := by decide +kernel
theorem dX3_divide_52 : decode cX3_divide 52 = .ok (.invokevirtual 66, 3) := by decide +kernel
theorem dX3_divide_55 : decode cX3_divide 55 = .ok (.ireturn, 1) := by decide +kernel
theorem dX3_divide_56 : decode cX3_divide 56 = .ok (.aload_n 0, 1) := by decide +kernel
theorem dX3_divide_57 : decode cX3_divide 57 = .ok (.iload_n 1, 1) := by decide +kernel
theorem dX3_divide_58 : decode cX3_divide 58 = .ok (.aload_n 0, 1) := by decide +kernel
theorem dX3_divide_59 : decode cX3_divide 59 = .ok (.getfield 13, 3) := by decide +kernel
theorem dX3_divide_62 : decode cX3_divide 62 = .ok (.invokevirtual 55, 3) := by decide +kernel
theorem dX3_divide_65 : decode cX3_divide 65 = .ok (.aload_n 0, 1) := by decide +kernel
theorem dX3_divide_66 : decode cX3_divide 66 = .ok (.iload_n 2, 1) := by decide +kernel
theorem dX3_divide_67 : decode cX3_divide 67 = .ok (.invokevirtual 91, 3) := by decide +kernel
theorem dX3_divide_70 : decode cX3_divide 70 = .ok (.aload_n 0, 1) := by decide +kernel
theorem dX3_divide_71 : decode cX3_divide 71 = .ok (.aload_n 0, 1) := by decide +kernel
theorem dX3_divide_72 : decode cX3_divide 72 = .ok (.getfield 16, 3) := by decide +kernel
theorem dX3_divide_75 : decode cX3_divide 75 = .ok (.invokevirtual 69, 3) := by decide +kernel
theorem dX3_divide_78 : decode cX3_divide 78 = .ok (.istore_n 3, 1) := by decide +kernel
theorem dX3_divide_79 : decode cX3_divide 79 = .ok (.aload_n 0, 1) := by decide +kernel
theorem dX3_divide_80 : decode cX3_divide 80 = .ok (.aload_n 0, 1) := by decide +kernel
theorem dX3_divide_81 : decode cX3_divide 81 = .ok (.getfield 13, 3) := by decide +kernel
theorem dX3_divide_84 : decode cX3_divide 84 = .ok (.invokevirtual 69, 3) := by decide +kernel
theorem dX3_divide_87 : decode cX3_divide 87 = .ok (.pop, 1) := by decide +kernel
theorem dX3_divide_88 : decode cX3_divide 88 = .ok (.iload_n 3, 1) := by decide +kernel
theorem dX3_divide_89 : decode cX3_divide 89 = .ok (.ireturn, 1) := by decide +kernel
theorem dX3_recipes_0 : decode cX3_recipes 0 = .ok (.aload_n 0, 1) := by decide +kernel
theorem dX3_recipes_1 : decode cX3_recipes 1 = .ok (.aload_n 0, 1) := by decide +kernel
theorem dX3_recipes_2 : decode cX3_recipes 2 = .ok (.getfield 30, 3) := by decide +kernel
theorem dX3_recipes_5 : decode cX3_recipes 5 = .ok (.invokevirtual 95, 3) := by decide +kernel
theorem dX3_recipes_8 : decode cX3_recipes 8 = .ok (.ireturn, 1) := by decide +kernel
theorem dX3_amountOf_0 : decode cX3_amountOf 0 = .ok (.aload_n 0, 1) := by decide +kernel
theorem dX3_amountOf_1 : decode cX3_amountOf 1 = .ok (.iconst 0, 1) := by decide +kernel
theorem dX3_amountOf_2 : decode cX3_amountOf 2 = .ok (.putfield 26, 3) := by decide +kernel
theorem dX3_amountOf_5 : decode cX3_amountOf 5 = .ok (.aload_n 0, 1) := by decide +kernel
theorem dX3_amountOf_6 : decode cX3_amountOf 6 = .ok (.iload_n 1, 1) := by decide +kernel
theorem dX3_amountOf_7 : decode cX3_amountOf 7 = .ok (.invokevirtual 73, 3) := by decide +kernel
theorem dX3_amountOf_10 : decode cX3_amountOf 10 = .ok (.ifCond .eq 22, 3) := by decide +kernel
theorem dX3_amountOf_13 : decode cX3_amountOf 13 = .ok (.iload_n 2, 1) := by decide +kernel
theorem dX3_amountOf_14 : decode cX3_amountOf 14 = .ok (.iconst 0, 1) := by decide +kernel
theorem dX3_amountOf_15 : decode cX3_amountOf 15 = .ok (.bipush 8, 2) := by decide +kernel
theorem dX3_amountOf_17 : decode cX3_amountOf 17 = .ok (.invokestatic 33, 3) := by decide +kernel
theorem dX3_amountOf_20 : decode cX3_amountOf 20 = .ok (.ifCond .eq 12, 3) := by decide +kernel
theorem dX3_amountOf_23 : decode cX3_amountOf 23 = .ok (.aload_n 0, 1) := by decide +kernel
theorem dX3_amountOf_24 : decode cX3_amountOf 24 = .ok (.iload_n 1, 1) := by decide +kernel
theorem dX3_amountOf_25 : decode cX3_amountOf 25 = .ok (.iload_n 2, 1) := by decide +kernel
theorem dX3_amountOf_26 : decode cX3_amountOf 26 = .ok (.invokevirtual 47, 3) := by decide +kernel
theorem dX3_amountOf_29 : decode cX3_amountOf 29 = .ok (.goto 8, 3) := by decide +kernel
theorem dX3_amountOf_32 : decode cX3_amountOf 32 = .ok (.aload_n 0, 1) := by decide +kernel
theorem dX3_amountOf_33 : decode cX3_amountOf 33 = .ok (.iconst 1, 1) := by decide +kernel
theorem dX3_amountOf_34 : decode cX3_amountOf 34 = .ok (.invokevirtual 66, 3) := by decide +kernel
theorem dX3_amountOf_37 : decode cX3_amountOf 37 = .ok (.ireturn, 1) := by decide +kernel
theorem dX3_degreeOf_0 : decode cX3_degreeOf 0 = .ok (.aload_n 0, 1) := by decide +kernel
theorem dX3_degreeOf_1 : decode cX3_degreeOf 1 = .ok (.iconst 0, 1) := by decide +kernel
theorem dX3_degreeOf_2 : decode cX3_degreeOf 2 = .ok (.putfield 26, 3) := by decide +kernel
theorem dX3_degreeOf_5 : decode cX3_degreeOf 5 = .ok (.aload_n 0, 1) := by decide +kernel
theorem dX3_degreeOf_6 : decode cX3_degreeOf 6 = .ok (.iload_n 1, 1) := by decide +kernel
theorem dX3_degreeOf_7 : decode cX3_degreeOf 7 = .ok (.invokevirtual 73, 3) := by decide +kernel
theorem dX3_degreeOf_10 : decode cX3_degreeOf 10 = .ok (.ifCond .eq 11, 3) := by decide +kernel
theorem dX3_degreeOf_13 : decode cX3_degreeOf 13 = .ok (.aload_n 0, 1) := by decide +kernel
theorem dX3_degreeOf_14 : decode cX3_degreeOf 14 = .ok (.iload_n 1, 1) := by decide +kernel
theorem dX3_degreeOf_15 : decode cX3_degreeOf 15 = .ok (.invokevirtual 51, 3) := by decide +kernel
theorem dX3_degreeOf_18 : decode cX3_degreeOf 18 = .ok (.goto 8, 3) := by decide +kernel
theorem dX3_degreeOf_21 : decode cX3_degreeOf 21 = .ok (.aload_n 0, 1) := by decide +kernel
theorem dX3_degreeOf_22 : decode cX3_degreeOf 22 = .ok (.iconst 1, 1) := by decide +kernel
theorem dX3_degreeOf_23 : decode cX3_degreeOf 23 = .ok (.invokevirtual 66, 3) := by decide +kernel
theorem dX3_degreeOf_26 : decode cX3_degreeOf 26 = .ok (.ireturn, 1) := by decide +kernel
theorem dX3_isPlain_0 : decode cX3_isPlain 0 = .ok (.aload_n 0, 1) := by decide +kernel
theorem dX3_isPlain_1 : decode cX3_isPlain 1 = .ok (.iconst 0, 1) := by decide +kernel
theorem dX3_isPlain_2 : decode cX3_isPlain 2 = .ok (.putfield 26, 3) := by decide +kernel
theorem dX3_isPlain_5 : decode cX3_isPlain 5 = .ok (.aload_n 0, 1) := by decide +kernel
theorem dX3_isPlain_6 : decode cX3_isPlain 6 = .ok (.iload_n 1, 1) := by decide +kernel
theorem dX3_isPlain_7 : decode cX3_isPlain 7 = .ok (.invokevirtual 73, 3) := by decide +kernel
theorem dX3_isPlain_10 : decode cX3_isPlain 10 = .ok (.ifCond .eq 11, 3) := by decide +kernel
theorem dX3_isPlain_13 : decode cX3_isPlain 13 = .ok (.aload_n 0, 1) := by decide +kernel
theorem dX3_isPlain_14 : decode cX3_isPlain 14 = .ok (.iload_n 1, 1) := by decide +kernel
theorem dX3_isPlain_15 : decode cX3_isPlain 15 = .ok (.invokevirtual 88, 3) := by decide +kernel
theorem dX3_isPlain_18 : decode cX3_isPlain 18 = .ok (.goto 8, 3) := by decide +kernel
theorem dX3_isPlain_21 : decode cX3_isPlain 21 = .ok (.aload_n 0, 1) := by decide +kernel
theorem dX3_isPlain_22 : decode cX3_isPlain 22 = .ok (.iconst 1, 1) := by decide +kernel
theorem dX3_isPlain_23 : decode cX3_isPlain 23 = .ok (.invokevirtual 98, 3) := by decide +kernel
theorem dX3_isPlain_26 : decode cX3_isPlain 26 = .ok (.ireturn, 1) := by decide +kernel
theorem dX3_contentOf_0 : decode cX3_contentOf 0 = .ok (.lconst 0, 1) := by decide +kernel
theorem dX3_contentOf_1 : decode cX3_contentOf 1 = .ok (.lstore_n 2, 1) := by decide +kernel
theorem dX3_contentOf_2 : decode cX3_contentOf 2 = .ok (.iconst 0, 1) := by decide +kernel
theorem dX3_contentOf_3 : decode cX3_contentOf 3 = .ok (.istore 4, 2) := by decide +kernel
theorem dX3_contentOf_5 : decode cX3_contentOf 5 = .ok (.iload 4, 2) := by decide +kernel
theorem dX3_contentOf_7 : decode cX3_contentOf 7 = .ok (.bipush 9, 2) := by decide +kernel
theorem dX3_contentOf_9 : decode cX3_contentOf 9 = .ok (.if_icmp .ge 45, 3) := by decide +kernel
theorem dX3_contentOf_12 : decode cX3_contentOf 12 = .ok (.aload_n 0, 1) := by decide +kernel
theorem dX3_contentOf_13 : decode cX3_contentOf 13 = .ok (.iload_n 1, 1) := by decide +kernel
theorem dX3_contentOf_14 : decode cX3_contentOf 14 = .ok (.iload 4, 2) := by decide +kernel
theorem dX3_contentOf_16 : decode cX3_contentOf 16 = .ok (.invokevirtual 47, 3) := by decide +kernel
theorem dX3_contentOf_19 : decode cX3_contentOf 19 = .ok (.i2l, 1) := by decide +kernel
theorem dX3_contentOf_20 : decode cX3_contentOf 20 = .ok (.invokestatic 101, 3) := by decide +kernel
theorem dX3_contentOf_23 : decode cX3_contentOf 23 = .ok (.lstore 5, 2) := by decide +kernel
theorem dX3_contentOf_25 : decode cX3_contentOf 25 = .ok (.lload 5, 2) := by decide +kernel
theorem dX3_contentOf_27 : decode cX3_contentOf 27 = .ok (.lconst 0, 1) := by decide +kernel
theorem dX3_contentOf_28 : decode cX3_contentOf 28 = .ok (.lcmp, 1) := by decide +kernel
theorem dX3_contentOf_29 : decode cX3_contentOf 29 = .ok (.ifCond .le 19, 3) := by decide +kernel
theorem dX3_contentOf_32 : decode cX3_contentOf 32 = .ok (.lload_n 2, 1) := by decide +kernel
theorem dX3_contentOf_33 : decode cX3_contentOf 33 = .ok (.lload 5, 2) := by decide +kernel
theorem dX3_contentOf_35 : decode cX3_contentOf 35 = .ok (.lrem, 1) := by decide +kernel
theorem dX3_contentOf_36 : decode cX3_contentOf 36 = .ok (.lstore 7, 2) := by decide +kernel
theorem dX3_contentOf_38 : decode cX3_contentOf 38 = .ok (.lload 5, 2) := by decide +kernel
theorem dX3_contentOf_40 : decode cX3_contentOf 40 = .ok (.lstore_n 2, 1) := by decide +kernel
theorem dX3_contentOf_41 : decode cX3_contentOf 41 = .ok (.lload 7, 2) := by decide +kernel
theorem dX3_contentOf_43 : decode cX3_contentOf 43 = .ok (.lstore 5, 2) := by decide +kernel
theorem dX3_contentOf_45 : decode cX3_contentOf 45 = .ok (.goto (-20), 3) := by decide +kernel
theorem dX3_contentOf_48 : decode cX3_contentOf 48 = .ok (.iinc 4 1, 3) := by decide +kernel
theorem dX3_contentOf_51 : decode cX3_contentOf 51 = .ok (.goto (-46), 3) := by decide +kernel
theorem dX3_contentOf_54 : decode cX3_contentOf 54 = .ok (.lload_n 2, 1) := by decide +kernel
theorem dX3_contentOf_55 : decode cX3_contentOf 55 = .ok (.lreturn, 1) := by decide +kernel
theorem dX3_content_0 : decode cX3_content 0 = .ok (.aload_n 0, 1) := by decide +kernel
theorem dX3_content_1 : decode cX3_content 1 = .ok (.iconst 0, 1) := by decide +kernel
theorem dX3_content_2 : decode cX3_content 2 = .ok (.putfield 26, 3) := by decide +kernel
theorem dX3_content_5 : decode cX3_content 5 = .ok (.aload_n 0, 1) := by decide +kernel
theorem dX3_content_6 : decode cX3_content 6 = .ok (.iload_n 1, 1) := by decide +kernel
theorem dX3_content_7 : decode cX3_content 7 = .ok (.invokevirtual 73, 3) := by decide +kernel
theorem dX3_content_10 : decode cX3_content 10 = .ok (.ifCond .eq 11, 3) := by decide +kernel
theorem dX3_content_13 : decode cX3_content 13 = .ok (.aload_n 0, 1) := by decide +kernel
theorem dX3_content_14 : decode cX3_content 14 = .ok (.iload_n 1, 1) := by decide +kernel
theorem dX3_content_15 : decode cX3_content 15 = .ok (.invokevirtual 107, 3) := by decide +kernel
theorem dX3_content_18 : decode cX3_content 18 = .ok (.goto 9, 3) := by decide +kernel
theorem dX3_content_21 : decode cX3_content 21 = .ok (.aload_n 0, 1) := by decide +kernel
theorem dX3_content_22 : decode cX3_content 22 = .ok (.iconst 1, 1) := by decide +kernel
theorem dX3_content_23 : decode cX3_content 23 = .ok (.invokevirtual 66, 3) := by decide +kernel
theorem dX3_content_26 : decode cX3_content 26 = .ok (.i2l, 1) := by decide +kernel
theorem dX3_content_27 : decode cX3_content 27 = .ok (.lreturn, 1) := by decide +kernel
theorem dX3_changes_0 : decode cX3_changes 0 = .ok (.iconst 0, 1) := by decide +kernel
theorem dX3_changes_1 : decode cX3_changes 1 = .ok (.istore_n 2, 1) := by decide +kernel
theorem dX3_changes_2 : decode cX3_changes 2 = .ok (.iconst 0, 1) := by decide +kernel
theorem dX3_changes_3 : decode cX3_changes 3 = .ok (.istore_n 3, 1) := by decide +kernel
theorem dX3_changes_4 : decode cX3_changes 4 = .ok (.iconst 0, 1) := by decide +kernel
theorem dX3_changes_5 : decode cX3_changes 5 = .ok (.istore 4, 2) := by decide +kernel
theorem dX3_changes_7 : decode cX3_changes 7 = .ok (.iload 4, 2) := by decide +kernel
theorem dX3_changes_9 : decode cX3_changes 9 = .ok (.bipush 9, 2) := by decide +kernel
theorem dX3_changes_11 : decode cX3_changes 11 = .ok (.if_icmp .ge 48, 3) := by decide +kernel
theorem dX3_changes_14 : decode cX3_changes 14 = .ok (.aload_n 0, 1) := by decide +kernel
theorem dX3_changes_15 : decode cX3_changes 15 = .ok (.iload_n 1, 1) := by decide +kernel
theorem dX3_changes_16 : decode cX3_changes 16 = .ok (.iload 4, 2) := by decide +kernel
theorem dX3_changes_18 : decode cX3_changes 18 = .ok (.invokevirtual 47, 3) := by decide +kernel
theorem dX3_changes_21 : decode cX3_changes 21 = .ok (.invokestatic 111, 3) := by decide +kernel
theorem dX3_changes_24 : decode cX3_changes 24 = .ok (.istore 5, 2) := by decide +kernel
theorem dX3_changes_26 : decode cX3_changes 26 = .ok (.iload_n 2, 1) := by decide +kernel
theorem dX3_changes_27 : decode cX3_changes 27 = .ok (.iload 5, 2) := by decide +kernel
theorem dX3_changes_29 : decode cX3_changes 29 = .ok (.iload_n 3, 1) := by decide +kernel
theorem dX3_changes_30 : decode cX3_changes 30 = .ok (.imul, 1) := by decide +kernel
theorem dX3_changes_31 : decode cX3_changes 31 = .ok (.ifCond .ge 7, 3) := by decide +kernel
theorem dX3_changes_34 : decode cX3_changes 34 = .ok (.iconst 1, 1) := by decide +kernel
theorem dX3_changes_35 : decode cX3_changes 35 = .ok (.goto 4, 3) := by decide +kernel
theorem dX3_changes_38 : decode cX3_changes 38 = .ok (.iconst 0, 1) := by decide +kernel
theorem dX3_changes_39 : decode cX3_changes 39 = .ok (.iadd, 1) := by decide +kernel
theorem dX3_changes_40 : decode cX3_changes 40 = .ok (.istore_n 2, 1) := by decide +kernel
theorem dX3_changes_41 : decode cX3_changes 41 = .ok (.iload 5, 2) := by decide +kernel
theorem dX3_changes_43 : decode cX3_changes 43 = .ok (.ifCond .ne 7, 3) := by decide +kernel
theorem dX3_changes_46 : decode cX3_changes 46 = .ok (.iload_n 3, 1) := by decide +kernel
theorem dX3_changes_47 : decode cX3_changes 47 = .ok (.goto 5, 3) := by decide +kernel
theorem dX3_changes_50 : decode cX3_changes 50 = .ok (.iload 5, 2) := by decide +kernel
theorem dX3_changes_52 : decode cX3_changes 52 = .ok (.istore_n 3, 1) := by decide +kernel
theorem dX3_changes_53 : decode cX3_changes 53 = .ok (.iinc 4 1, 3) := by decide +kernel
theorem dX3_changes_56 : decode cX3_changes 56 = .ok (.goto (-49), 3) := by decide +kernel
theorem dX3_changes_59 : decode cX3_changes 59 = .ok (.iload_n 2, 1) := by decide +kernel
theorem dX3_changes_60 : decode cX3_changes 60 = .ok (.ireturn, 1) := by decide +kernel
theorem dX3_signChanges_0 : decode cX3_signChanges 0 = .ok (.aload_n 0, 1) := by decide +kernel
theorem dX3_signChanges_1 : decode cX3_signChanges 1 = .ok (.iconst 0, 1) := by decide +kernel
theorem dX3_signChanges_2 : decode cX3_signChanges 2 = .ok (.putfield 26, 3) := by decide +kernel
theorem dX3_signChanges_5 : decode cX3_signChanges 5 = .ok (.aload_n 0, 1) := by decide +kernel
theorem dX3_signChanges_6 : decode cX3_signChanges 6 = .ok (.iload_n 1, 1) := by decide +kernel
theorem dX3_signChanges_7 : decode cX3_signChanges 7 = .ok (.invokevirtual 73, 3) := by decide +kernel
theorem dX3_signChanges_10 : decode cX3_signChanges 10 = .ok (.ifCond .eq 11, 3) := by decide +kernel
theorem dX3_signChanges_13 : decode cX3_signChanges 13 = .ok (.aload_n 0, 1) := by decide +kernel
theorem dX3_signChanges_14 : decode cX3_signChanges 14 = .ok (.iload_n 1, 1) := by decide +kernel
theorem dX3_signChanges_15 : decode cX3_signChanges 15 = .ok (.invokevirtual 116, 3) := by decide +kernel
theorem dX3_signChanges_18 : decode cX3_signChanges 18 = .ok (.goto 8, 3) := by decide +kernel
theorem dX3_signChanges_21 : decode cX3_signChanges 21 = .ok (.aload_n 0, 1) := by decide +kernel
theorem dX3_signChanges_22 : decode cX3_signChanges 22 = .ok (.iconst 1, 1) := by decide +kernel
theorem dX3_signChanges_23 : decode cX3_signChanges 23 = .ok (.invokevirtual 66, 3) := by decide +kernel
theorem dX3_signChanges_26 : decode cX3_signChanges 26 = .ok (.ireturn, 1) := by decide +kernel
theorem dX3_hunger_0 : decode cX3_hunger 0 = .ok (.aload_n 0, 1) := by decide +kernel
theorem dX3_hunger_1 : decode cX3_hunger 1 = .ok (.iconst 0, 1) := by decide +kernel
theorem dX3_hunger_2 : decode cX3_hunger 2 = .ok (.putfield 26, 3) := by decide +kernel
theorem dX3_hunger_5 : decode cX3_hunger 5 = .ok (.aload_n 0, 1) := by decide +kernel
theorem dX3_hunger_6 : decode cX3_hunger 6 = .ok (.iload_n 1, 1) := by decide +kernel
theorem dX3_hunger_7 : decode cX3_hunger 7 = .ok (.invokevirtual 73, 3) := by decide +kernel
theorem dX3_hunger_10 : decode cX3_hunger 10 = .ok (.ifCond .eq 12, 3) := by decide +kernel
theorem dX3_hunger_13 : decode cX3_hunger 13 = .ok (.aload_n 0, 1) := by decide +kernel
theorem dX3_hunger_14 : decode cX3_hunger 14 = .ok (.iload_n 1, 1) := by decide +kernel
theorem dX3_hunger_15 : decode cX3_hunger 15 = .ok (.iload_n 2, 1) := by decide +kernel
theorem dX3_hunger_16 : decode cX3_hunger 16 = .ok (.invokevirtual 119, 3) := by decide +kernel
theorem dX3_hunger_19 : decode cX3_hunger 19 = .ok (.goto 8, 3) := by decide +kernel
theorem dX3_hunger_22 : decode cX3_hunger 22 = .ok (.aload_n 0, 1) := by decide +kernel
theorem dX3_hunger_23 : decode cX3_hunger 23 = .ok (.iconst 1, 1) := by decide +kernel
theorem dX3_hunger_24 : decode cX3_hunger 24 = .ok (.invokevirtual 66, 3) := by decide +kernel
theorem dX3_hunger_27 : decode cX3_hunger 27 = .ok (.ireturn, 1) := by decide +kernel
theorem dX3_idle_0 : decode cX3_idle 0 = .ok (.aload_n 0, 1) := by decide +kernel
theorem dX3_idle_1 : decode cX3_idle 1 = .ok (.iload_n 1, 1) := by decide +kernel
theorem dX3_idle_2 : decode cX3_idle 2 = .ok (.aload_n 0, 1) := by decide +kernel
theorem dX3_idle_3 : decode cX3_idle 3 = .ok (.getfield 13, 3) := by decide +kernel
theorem dX3_idle_6 : decode cX3_idle 6 = .ok (.invokevirtual 55, 3) := by decide +kernel
theorem dX3_idle_9 : decode cX3_idle 9 = .ok (.iconst 0, 1) := by decide +kernel
theorem dX3_idle_10 : decode cX3_idle 10 = .ok (.istore_n 2, 1) := by decide +kernel
theorem dX3_idle_11 : decode cX3_idle 11 = .ok (.bipush (-20), 2) := by decide +kernel
theorem dX3_idle_13 : decode cX3_idle 13 = .ok (.istore_n 3, 1) := by decide +kernel
theorem dX3_idle_14 : decode cX3_idle 14 = .ok (.iload_n 3, 1) := by decide +kernel
theorem dX3_idle_15 : decode cX3_idle 15 = .ok (.bipush 20, 2) := by decide +kernel
theorem dX3_idle_17 : decode cX3_idle 17 = .ok (.if_icmp .gt 28, 3) := by decide +kernel
theorem dX3_idle_20 : decode cX3_idle 20 = .ok (.iload_n 2, 1) := by decide +kernel
theorem dX3_idle_21 : decode cX3_idle 21 = .ok (.aload_n 0, 1) := by decide +kernel
theorem dX3_idle_22 : decode cX3_idle 22 = .ok (.getfield 13, 3) := by decide +kernel
theorem dX3_idle_25 : decode cX3_idle 25 = .ok (.iload_n 3, 1) := by decide +kernel
theorem dX3_idle_26 : decode cX3_idle 26 = .ok (.invokestatic 58, 3) := by decide +kernel
theorem dX3_idle_29 : decode cX3_idle 29 = .ok (.ifCond .ne 7, 3) := by decide +kernel
theorem dX3_idle_32 : decode cX3_idle 32 = .ok (.iconst 1, 1) := by decide +kernel
theorem dX3_idle_33 : decode cX3_idle 33 = .ok (.goto 4, 3) := by decide +kernel
theorem dX3_idle_36 : decode cX3_idle 36 = .ok (.iconst 0, 1) := by decide +kernel
theorem dX3_idle_37 : decode cX3_idle 37 = .ok (.iadd, 1) := by decide +kernel
theorem dX3_idle_38 : decode cX3_idle 38 = .ok (.istore_n 2, 1) := by decide +kernel
theorem dX3_idle_39 : decode cX3_idle 39 = .ok (.iinc 3 1, 3) := by decide +kernel
theorem dX3_idle_42 : decode cX3_idle 42 = .ok (.goto (-28), 3) := by decide +kernel
theorem dX3_idle_45 : decode cX3_idle 45 = .ok (.iload_n 2, 1) := by decide +kernel
theorem dX3_idle_46 : decode cX3_idle 46 = .ok (.ireturn, 1) := by decide +kernel
theorem dX3_idleGuests_0 : decode cX3_idleGuests 0 = .ok (.aload_n 0, 1) := by decide +kernel
theorem dX3_idleGuests_1 : decode cX3_idleGuests 1 = .ok (.iconst 0, 1) := by decide +kernel
theorem dX3_idleGuests_2 : decode cX3_idleGuests 2 = .ok (.putfield 26, 3) := by decide +kernel
theorem dX3_idleGuests_5 : decode cX3_idleGuests 5 = .ok (.aload_n 0, 1) := by decide +kernel
theorem dX3_idleGuests_6 : decode cX3_idleGuests 6 = .ok (.iload_n 1, 1) := by decide +kernel
theorem dX3_idleGuests_7 : decode cX3_idleGuests 7 = .ok (.invokevirtual 73, 3) := by decide +kernel
theorem dX3_idleGuests_10 : decode cX3_idleGuests 10 = .ok (.ifCond .eq 11, 3) := by decide +kernel
theorem dX3_idleGuests_13 : decode cX3_idleGuests 13 = .ok (.aload_n 0, 1) := by decide +kernel
theorem dX3_idleGuests_14 : decode cX3_idleGuests 14 = .ok (.iload_n 1, 1) := by decide +kernel
theorem dX3_idleGuests_15 : decode cX3_idleGuests 15 = .ok (.invokevirtual 122, 3) := by decide +kernel
theorem dX3_idleGuests_18 : decode cX3_idleGuests 18 = .ok (.goto 8, 3) := by decide +kernel
theorem dX3_idleGuests_21 : decode cX3_idleGuests 21 = .ok (.aload_n 0, 1) := by decide +kernel
theorem dX3_idleGuests_22 : decode cX3_idleGuests 22 = .ok (.iconst 1, 1) := by decide +kernel
theorem dX3_idleGuests_23 : decode cX3_idleGuests 23 = .ok (.invokevirtual 66, 3) := by decide +kernel
theorem dX3_idleGuests_26 : decode cX3_idleGuests 26 = .ok (.ireturn, 1) := by decide +kernel
theorem dX3_first_0 : decode cX3_first 0 = .ok (.bipush (-20), 2) := by decide +kernel
theorem dX3_first_2 : decode cX3_first 2 = .ok (.istore_n 1, 1) := by decide +kernel
theorem dX3_first_3 : decode cX3_first 3 = .ok (.iload_n 1, 1) := by decide +kernel
theorem dX3_first_4 : decode cX3_first 4 = .ok (.bipush 20, 2) := by decide +kernel
theorem dX3_first_6 : decode cX3_first 6 = .ok (.if_icmp .gt 22, 3) := by decide +kernel
theorem dX3_first_9 : decode cX3_first 9 = .ok (.aload_n 0, 1) := by decide +kernel
theorem dX3_first_10 : decode cX3_first 10 = .ok (.getfield 13, 3) := by decide +kernel
theorem dX3_first_13 : decode cX3_first 13 = .ok (.iload_n 1, 1) := by decide +kernel
theorem dX3_first_14 : decode cX3_first 14 = .ok (.invokestatic 58, 3) := by decide +kernel
theorem dX3_first_17 : decode cX3_first 17 = .ok (.ifCond .ne 5, 3) := by decide +kernel
theorem dX3_first_20 : decode cX3_first 20 = .ok (.iload_n 1, 1) := by decide +kernel
theorem dX3_first_21 : decode cX3_first 21 = .ok (.ireturn, 1) := by decide +kernel
theorem dX3_first_22 : decode cX3_first 22 = .ok (.iinc 1 1, 3) := by decide +kernel
theorem dX3_first_25 : decode cX3_first 25 = .ok (.goto (-22), 3) := by decide +kernel
theorem dX3_first_28 : decode cX3_first 28 = .ok (.bipush 99, 2) := by decide +kernel
theorem dX3_first_30 : decode cX3_first 30 = .ok (.ireturn, 1) := by decide +kernel
theorem dX3_firstOf_0 : decode cX3_firstOf 0 = .ok (.aload_n 0, 1) := by decide +kernel
theorem dX3_firstOf_1 : decode cX3_firstOf 1 = .ok (.iload_n 1, 1) := by decide +kernel
theorem dX3_firstOf_2 : decode cX3_firstOf 2 = .ok (.aload_n 0, 1) := by decide +kernel
theorem dX3_firstOf_3 : decode cX3_firstOf 3 = .ok (.getfield 13, 3) := by decide +kernel
theorem dX3_firstOf_6 : decode cX3_firstOf 6 = .ok (.invokevirtual 55, 3) := by decide +kernel
theorem dX3_firstOf_9 : decode cX3_firstOf 9 = .ok (.aload_n 0, 1) := by decide +kernel
theorem dX3_firstOf_10 : decode cX3_firstOf 10 = .ok (.invokevirtual 125, 3) := by decide +kernel
theorem dX3_firstOf_13 : decode cX3_firstOf 13 = .ok (.ireturn, 1) := by decide +kernel
theorem dX3_firstIdle_0 : decode cX3_firstIdle 0 = .ok (.aload_n 0, 1) := by decide +kernel
theorem dX3_firstIdle_1 : decode cX3_firstIdle 1 = .ok (.iconst 0, 1) := by decide +kernel
theorem dX3_firstIdle_2 : decode cX3_firstIdle 2 = .ok (.putfield 26, 3) := by decide +kernel
theorem dX3_firstIdle_5 : decode cX3_firstIdle 5 = .ok (.aload_n 0, 1) := by decide +kernel
theorem dX3_firstIdle_6 : decode cX3_firstIdle 6 = .ok (.iload_n 1, 1) := by decide +kernel
theorem dX3_firstIdle_7 : decode cX3_firstIdle 7 = .ok (.invokevirtual 73, 3) := by decide +kernel
theorem dX3_firstIdle_10 : decode cX3_firstIdle 10 = .ok (.ifCond .eq 11, 3) := by decide +kernel
theorem dX3_firstIdle_13 : decode cX3_firstIdle 13 = .ok (.aload_n 0, 1) := by decide +kernel
theorem dX3_firstIdle_14 : decode cX3_firstIdle 14 = .ok (.iload_n 1, 1) := by decide +kernel
theorem dX3_firstIdle_15 : decode cX3_firstIdle 15 = .ok (.invokevirtual 129, 3) := by decide +kernel
theorem dX3_firstIdle_18 : decode cX3_firstIdle 18 = .ok (.goto 8, 3) := by decide +kernel
theorem dX3_firstIdle_21 : decode cX3_firstIdle 21 = .ok (.aload_n 0, 1) := by decide +kernel
theorem dX3_firstIdle_22 : decode cX3_firstIdle 22 = .ok (.iconst 1, 1) := by decide +kernel
theorem dX3_firstIdle_23 : decode cX3_firstIdle 23 = .ok (.invokevirtual 66, 3) := by decide +kernel
theorem dX3_firstIdle_26 : decode cX3_firstIdle 26 = .ok (.ireturn, 1) := by decide +kernel
theorem dX3_agreeAt_0 : decode cX3_agreeAt 0 = .ok (.aload_n 0, 1) := by decide +kernel
theorem dX3_agreeAt_1 : decode cX3_agreeAt 1 = .ok (.iconst 0, 1) := by decide +kernel
theorem dX3_agreeAt_2 : decode cX3_agreeAt 2 = .ok (.putfield 26, 3) := by decide +kernel
theorem dX3_agreeAt_5 : decode cX3_agreeAt 5 = .ok (.aload_n 0, 1) := by decide +kernel
theorem dX3_agreeAt_6 : decode cX3_agreeAt 6 = .ok (.iload_n 1, 1) := by decide +kernel
theorem dX3_agreeAt_7 : decode cX3_agreeAt 7 = .ok (.invokevirtual 73, 3) := by decide +kernel
theorem dX3_agreeAt_10 : decode cX3_agreeAt 10 = .ok (.ifCond .eq 11, 3) := by decide +kernel
theorem dX3_agreeAt_13 : decode cX3_agreeAt 13 = .ok (.aload_n 0, 1) := by decide +kernel
theorem dX3_agreeAt_14 : decode cX3_agreeAt 14 = .ok (.iload_n 2, 1) := by decide +kernel
theorem dX3_agreeAt_15 : decode cX3_agreeAt 15 = .ok (.invokevirtual 73, 3) := by decide +kernel
theorem dX3_agreeAt_18 : decode cX3_agreeAt 18 = .ok (.ifCond .ne 9, 3) := by decide +kernel
theorem dX3_agreeAt_21 : decode cX3_agreeAt 21 = .ok (.aload_n 0, 1) := by decide +kernel
theorem dX3_agreeAt_22 : decode cX3_agreeAt 22 = .ok (.iconst 1, 1) := by decide +kernel
theorem dX3_agreeAt_23 : decode cX3_agreeAt 23 = .ok (.invokevirtual 66, 3) := by decide +kernel
theorem dX3_agreeAt_26 : decode cX3_agreeAt 26 = .ok (.ireturn, 1) := by decide +kernel
theorem dX3_agreeAt_27 : decode cX3_agreeAt 27 = .ok (.iconst 0, 1) := by decide +kernel
theorem dX3_agreeAt_28 : decode cX3_agreeAt 28 = .ok (.istore_n 3, 1) := by decide +kernel
theorem dX3_agreeAt_29 : decode cX3_agreeAt 29 = .ok (.iload_n 3, 1) := by decide +kernel
theorem dX3_agreeAt_30 : decode cX3_agreeAt 30 = .ok (.bipush 9, 2) := by decide +kernel
theorem dX3_agreeAt_32 : decode cX3_agreeAt 32 = .ok (.if_icmp .ge 28, 3) := by decide +kernel
theorem dX3_agreeAt_35 : decode cX3_agreeAt 35 = .ok (.aload_n 0, 1) := by decide +kernel
theorem dX3_agreeAt_36 : decode cX3_agreeAt 36 = .ok (.getfield 13, 3) := by decide +kernel
theorem dX3_agreeAt_39 : decode cX3_agreeAt 39 = .ok (.iload_n 3, 1) := by decide +kernel
theorem dX3_agreeAt_40 : decode cX3_agreeAt 40 = .ok (.aload_n 0, 1) := by decide +kernel
theorem dX3_agreeAt_41 : decode cX3_agreeAt 41 = .ok (.iload_n 1, 1) := by decide +kernel
theorem dX3_agreeAt_42 : decode cX3_agreeAt 42 = .ok (.iload_n 3, 1) := by decide +kernel
theorem dX3_agreeAt_43 : decode cX3_agreeAt 43 = .ok (.invokevirtual 47, 3) := by decide +kernel
theorem dX3_agreeAt_46 : decode cX3_agreeAt 46 = .ok (.aload_n 0, 1) := by decide +kernel
theorem dX3_agreeAt_47 : decode cX3_agreeAt 47 = .ok (.iload_n 2, 1) := by decide +kernel
theorem dX3_agreeAt_48 : decode cX3_agreeAt 48 = .ok (.iload_n 3, 1) := by decide +kernel
theorem dX3_agreeAt_49 : decode cX3_agreeAt 49 = .ok (.invokevirtual 47, 3) := by decide +kernel
theorem dX3_agreeAt_52 : decode cX3_agreeAt 52 = .ok (.isub, 1) := by decide +kernel
theorem dX3_agreeAt_53 : decode cX3_agreeAt 53 = .ok (.iastore, 1) := by decide +kernel
theorem dX3_agreeAt_54 : decode cX3_agreeAt 54 = .ok (.iinc 3 1, 3) := by decide +kernel
theorem dX3_agreeAt_57 : decode cX3_agreeAt 57 = .ok (.goto (-28), 3) := by decide +kernel
theorem dX3_agreeAt_60 : decode cX3_agreeAt 60 = .ok (.aload_n 0, 1) := by decide +kernel
theorem dX3_agreeAt_61 : decode cX3_agreeAt 61 = .ok (.invokevirtual 125, 3) := by decide +kernel
theorem dX3_agreeAt_64 : decode cX3_agreeAt 64 = .ok (.ireturn, 1) := by decide +kernel
theorem dX3_least_0 : decode cX3_least 0 = .ok (.aload_n 0, 1) := by decide +kernel
theorem dX3_least_1 : decode cX3_least 1 = .ok (.iload_n 1, 1) := by decide +kernel
theorem dX3_least_2 : decode cX3_least 2 = .ok (.aload_n 0, 1) := by decide +kernel
theorem dX3_least_3 : decode cX3_least 3 = .ok (.getfield 13, 3) := by decide +kernel
theorem dX3_least_6 : decode cX3_least 6 = .ok (.invokevirtual 55, 3) := by decide +kernel
theorem dX3_least_9 : decode cX3_least 9 = .ok (.iconst 1, 1) := by decide +kernel
theorem dX3_least_10 : decode cX3_least 10 = .ok (.istore_n 2, 1) := by decide +kernel
theorem dX3_least_11 : decode cX3_least 11 = .ok (.iconst 2, 1) := by decide +kernel
theorem dX3_least_12 : decode cX3_least 12 = .ok (.istore_n 3, 1) := by decide +kernel
theorem dX3_least_13 : decode cX3_least 13 = .ok (.iload_n 3, 1) := by decide +kernel
theorem dX3_least_14 : decode cX3_least 14 = .ok (.bipush 20, 2) := by decide +kernel
theorem dX3_least_16 : decode cX3_least 16 = .ok (.if_icmp .gt 30, 3) := by decide +kernel
theorem dX3_least_19 : decode cX3_least 19 = .ok (.aload_n 0, 1) := by decide +kernel
theorem dX3_least_20 : decode cX3_least 20 = .ok (.getfield 13, 3) := by decide +kernel
theorem dX3_least_23 : decode cX3_least 23 = .ok (.iload_n 3, 1) := by decide +kernel
theorem dX3_least_24 : decode cX3_least 24 = .ok (.invokestatic 58, 3) := by decide +kernel
theorem dX3_least_27 : decode cX3_least 27 = .ok (.aload_n 0, 1) := by decide +kernel
theorem dX3_least_28 : decode cX3_least 28 = .ok (.getfield 13, 3) := by decide +kernel
theorem dX3_least_31 : decode cX3_least 31 = .ok (.iload_n 2, 1) := by decide +kernel
theorem dX3_least_32 : decode cX3_least 32 = .ok (.invokestatic 58, 3) := by decide +kernel
theorem dX3_least_35 : decode cX3_least 35 = .ok (.if_icmp .ge 5, 3) := by decide +kernel
theorem dX3_least_38 : decode cX3_least 38 = .ok (.iload_n 3, 1) := by decide +kernel
theorem dX3_least_39 : decode cX3_least 39 = .ok (.istore_n 2, 1) := by decide +kernel
theorem dX3_least_40 : decode cX3_least 40 = .ok (.iinc 3 1, 3) := by decide +kernel
theorem dX3_least_43 : decode cX3_least 43 = .ok (.goto (-30), 3) := by decide +kernel
theorem dX3_least_46 : decode cX3_least 46 = .ok (.iload_n 2, 1) := by decide +kernel
theorem dX3_least_47 : decode cX3_least 47 = .ok (.ireturn, 1) := by decide +kernel
theorem dX3_cheapest_0 : decode cX3_cheapest 0 = .ok (.aload_n 0, 1) := by decide +kernel
theorem dX3_cheapest_1 : decode cX3_cheapest 1 = .ok (.iconst 0, 1) := by decide +kernel
theorem dX3_cheapest_2 : decode cX3_cheapest 2 = .ok (.putfield 26, 3) := by decide +kernel
theorem dX3_cheapest_5 : decode cX3_cheapest 5 = .ok (.aload_n 0, 1) := by decide +kernel
theorem dX3_cheapest_6 : decode cX3_cheapest 6 = .ok (.iload_n 1, 1) := by decide +kernel
theorem dX3_cheapest_7 : decode cX3_cheapest 7 = .ok (.invokevirtual 73, 3) := by decide +kernel
theorem dX3_cheapest_10 : decode cX3_cheapest 10 = .ok (.ifCond .eq 11, 3) := by decide +kernel
theorem dX3_cheapest_13 : decode cX3_cheapest 13 = .ok (.aload_n 0, 1) := by decide +kernel
theorem dX3_cheapest_14 : decode cX3_cheapest 14 = .ok (.iload_n 1, 1) := by decide +kernel
theorem dX3_cheapest_15 : decode cX3_cheapest 15 = .ok (.invokevirtual 132, 3) := by decide +kernel
theorem dX3_cheapest_18 : decode cX3_cheapest 18 = .ok (.goto 8, 3) := by decide +kernel
theorem dX3_cheapest_21 : decode cX3_cheapest 21 = .ok (.aload_n 0, 1) := by decide +kernel
theorem dX3_cheapest_22 : decode cX3_cheapest 22 = .ok (.iconst 1, 1) := by decide +kernel
theorem dX3_cheapest_23 : decode cX3_cheapest 23 = .ok (.invokevirtual 66, 3) := by decide +kernel
theorem dX3_cheapest_26 : decode cX3_cheapest 26 = .ok (.ireturn, 1) := by decide +kernel
theorem dX3_hungerUpTo_0 : decode cX3_hungerUpTo 0 = .ok (.aload_n 0, 1) := by decide +kernel
theorem dX3_hungerUpTo_1 : decode cX3_hungerUpTo 1 = .ok (.iconst 0, 1) := by decide +kernel
theorem dX3_hungerUpTo_2 : decode cX3_hungerUpTo 2 = .ok (.putfield 26, 3) := by decide +kernel
theorem dX3_hungerUpTo_5 : decode cX3_hungerUpTo 5 = .ok (.aload_n 0, 1) := by decide +kernel
theorem dX3_hungerUpTo_6 : decode cX3_hungerUpTo 6 = .ok (.iload_n 1, 1) := by decide +kernel
theorem dX3_hungerUpTo_7 : decode cX3_hungerUpTo 7 = .ok (.invokevirtual 73, 3) := by decide +kernel
theorem dX3_hungerUpTo_10 : decode cX3_hungerUpTo 10 = .ok (.ifCond .ne 10, 3) := by decide +kernel
theorem dX3_hungerUpTo_13 : decode cX3_hungerUpTo 13 = .ok (.aload_n 0, 1) := by decide +kernel
theorem dX3_hungerUpTo_14 : decode cX3_hungerUpTo 14 = .ok (.iconst 1, 1) := by decide +kernel
theorem dX3_hungerUpTo_15 : decode cX3_hungerUpTo 15 = .ok (.invokevirtual 66, 3) := by decide +kernel
theorem dX3_hungerUpTo_18 : decode cX3_hungerUpTo 18 = .ok (.i2l, 1) := by decide +kernel
theorem dX3_hungerUpTo_19 : decode cX3_hungerUpTo 19 = .ok (.lreturn, 1) := by decide +kernel
theorem dX3_hungerUpTo_20 : decode cX3_hungerUpTo 20 = .ok (.iload_n 2, 1) := by decide +kernel
theorem dX3_hungerUpTo_21 : decode cX3_hungerUpTo 21 = .ok (.iconst 1, 1) := by decide +kernel
theorem dX3_hungerUpTo_22 : decode cX3_hungerUpTo 22 = .ok (.bipush 50, 2) := by decide +kernel
theorem dX3_hungerUpTo_24 : decode cX3_hungerUpTo 24 = .ok (.invokestatic 33, 3) := by decide +kernel
theorem dX3_hungerUpTo_27 : decode cX3_hungerUpTo 27 = .ok (.ifCond .ne 10, 3) := by decide +kernel
theorem dX3_hungerUpTo_30 : decode cX3_hungerUpTo 30 = .ok (.aload_n 0, 1) := by decide +kernel
theorem dX3_hungerUpTo_31 : decode cX3_hungerUpTo 31 = .ok (.iconst 2, 1) := by decide +kernel
theorem dX3_hungerUpTo_32 : decode cX3_hungerUpTo 32 = .ok (.invokevirtual 66, 3) := by decide +kernel
theorem dX3_hungerUpTo_35 : decode cX3_hungerUpTo 35 = .ok (.i2l, 1) := by decide +kernel
theorem dX3_hungerUpTo_36 : decode cX3_hungerUpTo 36 = .ok (.lreturn, 1) := by decide +kernel
theorem dX3_hungerUpTo_37 : decode cX3_hungerUpTo 37 = .ok (.aload_n 0, 1) := by decide +kernel
theorem dX3_hungerUpTo_38 : decode cX3_hungerUpTo 38 = .ok (.iload_n 1, 1) := by decide +kernel
theorem dX3_hungerUpTo_39 : decode cX3_hungerUpTo 39 = .ok (.aload_n 0, 1) := by decide +kernel
theorem dX3_hungerUpTo_40 : decode cX3_hungerUpTo 40 = .ok (.getfield 13, 3) := by decide +kernel
theorem dX3_hungerUpTo_43 : decode cX3_hungerUpTo 43 = .ok (.invokevirtual 55, 3) := by decide +kernel
theorem dX3_hungerUpTo_46 : decode cX3_hungerUpTo 46 = .ok (.lconst 0, 1) := by decide +kernel
theorem dX3_hungerUpTo_47 : decode cX3_hungerUpTo 47 = .ok (.lstore_n 3, 1) := by decide +kernel
theorem dX3_hungerUpTo_48 : decode cX3_hungerUpTo 48 = .ok (.iconst 1, 1) := by decide +kernel
theorem dX3_hungerUpTo_49 : decode cX3_hungerUpTo 49 = .ok (.istore 5, 2) := by decide +kernel
theorem dX3_hungerUpTo_51 : decode cX3_hungerUpTo 51 = .ok (.iload 5, 2) := by decide +kernel
theorem dX3_hungerUpTo_53 : decode cX3_hungerUpTo 53 = .ok (.iload_n 2, 1) := by decide +kernel
theorem dX3_hungerUpTo_54 : decode cX3_hungerUpTo 54 = .ok (.if_icmp .gt 22, 3) := by decide +kernel
theorem dX3_hungerUpTo_57 : decode cX3_hungerUpTo 57 = .ok (.lload_n 3, 1) := by decide +kernel
theorem dX3_hungerUpTo_58 : decode cX3_hungerUpTo 58 = .ok (.aload_n 0, 1) := by decide +kernel
theorem dX3_hungerUpTo_59 : decode cX3_hungerUpTo 59 = .ok (.getfield 13, 3) := by decide +kernel
theorem dX3_hungerUpTo_62 : decode cX3_hungerUpTo 62 = .ok (.iload 5, 2) := by decide +kernel
theorem dX3_hungerUpTo_64 : decode cX3_hungerUpTo 64 = .ok (.invokestatic 58, 3) := by decide +kernel
theorem dX3_hungerUpTo_67 : decode cX3_hungerUpTo 67 = .ok (.i2l, 1) := by decide +kernel
theorem dX3_hungerUpTo_68 : decode cX3_hungerUpTo 68 = .ok (.ladd, 1) := by decide +kernel
theorem dX3_hungerUpTo_69 : decode cX3_hungerUpTo 69 = .ok (.lstore_n 3, 1) := by decide +kernel
theorem dX3_hungerUpTo_70 : decode cX3_hungerUpTo 70 = .ok (.iinc 5 1, 3) := by decide +kernel
theorem dX3_hungerUpTo_73 : decode cX3_hungerUpTo 73 = .ok (.goto (-22), 3) := by decide +kernel
theorem dX3_hungerUpTo_76 : decode cX3_hungerUpTo 76 = .ok (.lload_n 3, 1) := by decide +kernel
theorem dX3_hungerUpTo_77 : decode cX3_hungerUpTo 77 = .ok (.lreturn, 1) := by decide +kernel
theorem dX3_write_0 : decode cX3_write 0 = .ok (.aload_n 0, 1) := by decide +kernel
theorem dX3_write_1 : decode cX3_write 1 = .ok (.getfield 22, 3) := by decide +kernel
theorem dX3_write_4 : decode cX3_write 4 = .ok (.iconst 0, 1) := by decide +kernel
theorem dX3_write_5 : decode cX3_write 5 = .ok (.invokevirtual 135, 3) := by decide +kernel
theorem dX3_write_8 : decode cX3_write 8 = .ok (.bipush 8, 2) := by decide +kernel
theorem dX3_write_10 : decode cX3_write 10 = .ok (.istore_n 2, 1) := by decide +kernel
theorem dX3_write_11 : decode cX3_write 11 = .ok (.iload_n 2, 1) := by decide +kernel
theorem dX3_write_12 : decode cX3_write 12 = .ok (.ifCond .lt 118, 3) := by decide +kernel
theorem dX3_write_15 : decode cX3_write 15 = .ok (.aload_n 0, 1) := by decide +kernel
theorem dX3_write_16 : decode cX3_write 16 = .ok (.iload_n 1, 1) := by decide +kernel
theorem dX3_write_17 : decode cX3_write 17 = .ok (.iload_n 2, 1) := by decide +kernel
theorem dX3_write_18 : decode cX3_write 18 = .ok (.invokevirtual 47, 3) := by decide +kernel
theorem dX3_write_21 : decode cX3_write 21 = .ok (.i2l, 1) := by decide +kernel
theorem dX3_write_22 : decode cX3_write 22 = .ok (.lstore_n 3, 1) := by decide +kernel
theorem dX3_write_23 : decode cX3_write 23 = .ok (.lload_n 3, 1) := by decide +kernel
theorem dX3_write_24 : decode cX3_write 24 = .ok (.lconst 0, 1) := by decide +kernel
theorem dX3_write_25 : decode cX3_write 25 = .ok (.lcmp, 1) := by decide +kernel
theorem dX3_write_26 : decode cX3_write 26 = .ok (.ifCond .ne 6, 3) := by decide +kernel
theorem dX3_write_29 : decode cX3_write 29 = .ok (.goto 95, 3) := by decide +kernel
theorem dX3_write_32 : decode cX3_write 32 = .ok (.lload_n 3, 1) := by decide +kernel
theorem dX3_write_33 : decode cX3_write 33 = .ok (.lconst 0, 1) := by decide +kernel
theorem dX3_write_34 : decode cX3_write 34 = .ok (.lcmp, 1) := by decide +kernel
theorem dX3_write_35 : decode cX3_write 35 = .ok (.ifCond .ge 16, 3) := by decide +kernel
theorem dX3_write_38 : decode cX3_write 38 = .ok (.aload_n 0, 1) := by decide +kernel
theorem dX3_write_39 : decode cX3_write 39 = .ok (.getfield 22, 3) := by decide +kernel
theorem dX3_write_42 : decode cX3_write 42 = .ok (.bipush 45, 2) := by decide +kernel
theorem dX3_write_44 : decode cX3_write 44 = .ok (.invokevirtual 138, 3) := by decide +kernel
theorem dX3_write_47 : decode cX3_write 47 = .ok (.pop, 1) := by decide +kernel
theorem dX3_write_48 : decode cX3_write 48 = .ok (.goto 23, 3) := by decide +kernel
theorem dX3_write_51 : decode cX3_write 51 = .ok (.aload_n 0, 1) := by decide +kernel
theorem dX3_write_52 : decode cX3_write 52 = .ok (.getfield 22, 3) := by decide +kernel
theorem dX3_write_55 : decode cX3_write 55 = .ok (.invokevirtual 142, 3) := by decide +kernel
theorem dX3_write_58 : decode cX3_write 58 = .ok (.ifCond .le 13, 3) := by decide +kernel
theorem dX3_write_61 : decode cX3_write 61 = .ok (.aload_n 0, 1) := by decide +kernel
theorem dX3_write_62 : decode cX3_write 62 = .ok (.getfield 22, 3) := by decide +kernel
theorem dX3_write_65 : decode cX3_write 65 = .ok (.bipush 43, 2) := by decide +kernel
theorem dX3_write_67 : decode cX3_write 67 = .ok (.invokevirtual 138, 3) := by decide +kernel
theorem dX3_write_70 : decode cX3_write 70 = .ok (.pop, 1) := by decide +kernel
theorem dX3_write_71 : decode cX3_write 71 = .ok (.lload_n 3, 1) := by decide +kernel
theorem dX3_write_72 : decode cX3_write 72 = .ok (.invokestatic 101, 3) := by decide +kernel
theorem dX3_write_75 : decode cX3_write 75 = .ok (.lconst 1, 1) := by decide +kernel
theorem dX3_write_76 : decode cX3_write 76 = .ok (.lcmp, 1) := by decide +kernel
theorem dX3_write_77 : decode cX3_write 77 = .ok (.ifCond .gt 7, 3) := by decide +kernel
theorem dX3_write_80 : decode cX3_write 80 = .ok (.iload_n 2, 1) := by decide +kernel
theorem dX3_write_81 : decode cX3_write 81 = .ok (.ifCond .ne 15, 3) := by decide +kernel
theorem dX3_write_84 : decode cX3_write 84 = .ok (.aload_n 0, 1) := by decide +kernel
theorem dX3_write_85 : decode cX3_write 85 = .ok (.getfield 22, 3) := by decide +kernel
theorem dX3_write_88 : decode cX3_write 88 = .ok (.lload_n 3, 1) := by decide +kernel
theorem dX3_write_89 : decode cX3_write 89 = .ok (.invokestatic 101, 3) := by decide +kernel
theorem dX3_write_92 : decode cX3_write 92 = .ok (.invokevirtual 145, 3) := by decide +kernel
theorem dX3_write_95 : decode cX3_write 95 = .ok (.pop, 1) := by decide +kernel
theorem dX3_write_96 : decode cX3_write 96 = .ok (.iload_n 2, 1) := by decide +kernel
theorem dX3_write_97 : decode cX3_write 97 = .ok (.ifCond .le 13, 3) := by decide +kernel
theorem dX3_write_100 : decode cX3_write 100 = .ok (.aload_n 0, 1) := by decide +kernel
theorem dX3_write_101 : decode cX3_write 101 = .ok (.getfield 22, 3) := by decide +kernel
theorem dX3_write_104 : decode cX3_write 104 = .ok (.bipush 120, 2) := by decide +kernel
theorem dX3_write_106 : decode cX3_write 106 = .ok (.invokevirtual 138, 3) := by decide +kernel
theorem dX3_write_109 : decode cX3_write 109 = .ok (.pop, 1) := by decide +kernel
theorem dX3_write_110 : decode cX3_write 110 = .ok (.iload_n 2, 1) := by decide +kernel
theorem dX3_write_111 : decode cX3_write 111 = .ok (.iconst 1, 1) := by decide +kernel
theorem dX3_write_112 : decode cX3_write 112 = .ok (.if_icmp .le 12, 3) := by decide +kernel
theorem dX3_write_115 : decode cX3_write 115 = .ok (.aload_n 0, 1) := by decide +kernel
theorem dX3_write_116 : decode cX3_write 116 = .ok (.getfield 22, 3) := by decide +kernel
theorem dX3_write_119 : decode cX3_write 119 = .ok (.iload_n 2, 1) := by decide +kernel
theorem dX3_write_120 : decode cX3_write 120 = .ok (.invokevirtual 148, 3) := by decide +kernel
theorem dX3_write_123 : decode cX3_write 123 = .ok (.pop, 1) := by decide +kernel
theorem dX3_write_124 : decode cX3_write 124 = .ok (.iinc 2 (-1), 3) := by decide +kernel
theorem dX3_write_127 : decode cX3_write 127 = .ok (.goto (-116), 3) := by decide +kernel
theorem dX3_write_130 : decode cX3_write 130 = .ok (.aload_n 0, 1) := by decide +kernel
theorem dX3_write_131 : decode cX3_write 131 = .ok (.getfield 22, 3) := by decide +kernel
theorem dX3_write_134 : decode cX3_write 134 = .ok (.invokevirtual 142, 3) := by decide +kernel
theorem dX3_write_137 : decode cX3_write 137 = .ok (.ifCond .ne 13, 3) := by decide +kernel
theorem dX3_write_140 : decode cX3_write 140 = .ok (.aload_n 0, 1) := by decide +kernel
theorem dX3_write_141 : decode cX3_write 141 = .ok (.getfield 22, 3) := by decide +kernel
theorem dX3_write_144 : decode cX3_write 144 = .ok (.bipush 48, 2) := by decide +kernel
theorem dX3_write_146 : decode cX3_write 146 = .ok (.invokevirtual 138, 3) := by decide +kernel
theorem dX3_write_149 : decode cX3_write 149 = .ok (.pop, 1) := by decide +kernel
theorem dX3_write_150 : decode cX3_write 150 = .ok (.return_, 1) := by decide +kernel
theorem dX3_textOf_0 : decode cX3_textOf 0 = .ok (.aload_n 0, 1) := by decide +kernel
theorem dX3_textOf_1 : decode cX3_textOf 1 = .ok (.iload_n 1, 1) := by decide +kernel
theorem dX3_textOf_2 : decode cX3_textOf 2 = .ok (.invokevirtual 151, 3) := by decide +kernel
theorem dX3_textOf_5 : decode cX3_textOf 5 = .ok (.aload_n 0, 1) := by decide +kernel
theorem dX3_textOf_6 : decode cX3_textOf 6 = .ok (.getfield 22, 3) := by decide +kernel
theorem dX3_textOf_9 : decode cX3_textOf 9 = .ok (.invokevirtual 142, 3) := by decide +kernel
theorem dX3_textOf_12 : decode cX3_textOf 12 = .ok (.ireturn, 1) := by decide +kernel
theorem dX3_textLength_0 : decode cX3_textLength 0 = .ok (.aload_n 0, 1) := by decide +kernel
theorem dX3_textLength_1 : decode cX3_textLength 1 = .ok (.iconst 0, 1) := by decide +kernel
theorem dX3_textLength_2 : decode cX3_textLength 2 = .ok (.putfield 26, 3) := by decide +kernel
theorem dX3_textLength_5 : decode cX3_textLength 5 = .ok (.aload_n 0, 1) := by decide +kernel
theorem dX3_textLength_6 : decode cX3_textLength 6 = .ok (.iload_n 1, 1) := by decide +kernel
theorem dX3_textLength_7 : decode cX3_textLength 7 = .ok (.invokevirtual 73, 3) := by decide +kernel
theorem dX3_textLength_10 : decode cX3_textLength 10 = .ok (.ifCond .eq 11, 3) := by decide +kernel
theorem dX3_textLength_13 : decode cX3_textLength 13 = .ok (.aload_n 0, 1) := by decide +kernel
theorem dX3_textLength_14 : decode cX3_textLength 14 = .ok (.iload_n 1, 1) := by decide +kernel
theorem dX3_textLength_15 : decode cX3_textLength 15 = .ok (.invokevirtual 154, 3) := by decide +kernel
theorem dX3_textLength_18 : decode cX3_textLength 18 = .ok (.goto 8, 3) := by decide +kernel
theorem dX3_textLength_21 : decode cX3_textLength 21 = .ok (.aload_n 0, 1) := by decide +kernel
theorem dX3_textLength_22 : decode cX3_textLength 22 = .ok (.iconst 1, 1) := by decide +kernel
theorem dX3_textLength_23 : decode cX3_textLength 23 = .ok (.invokevirtual 66, 3) := by decide +kernel
theorem dX3_textLength_26 : decode cX3_textLength 26 = .ok (.ireturn, 1) := by decide +kernel
theorem dX3_textAt_0 : decode cX3_textAt 0 = .ok (.aload_n 0, 1) := by decide +kernel
theorem dX3_textAt_1 : decode cX3_textAt 1 = .ok (.iconst 0, 1) := by decide +kernel
theorem dX3_textAt_2 : decode cX3_textAt 2 = .ok (.putfield 26, 3) := by decide +kernel
theorem dX3_textAt_5 : decode cX3_textAt 5 = .ok (.aload_n 0, 1) := by decide +kernel
theorem dX3_textAt_6 : decode cX3_textAt 6 = .ok (.iload_n 1, 1) := by decide +kernel
theorem dX3_textAt_7 : decode cX3_textAt 7 = .ok (.invokevirtual 73, 3) := by decide +kernel
theorem dX3_textAt_10 : decode cX3_textAt 10 = .ok (.ifCond .eq 29, 3) := by decide +kernel
theorem dX3_textAt_13 : decode cX3_textAt 13 = .ok (.iload_n 2, 1) := by decide +kernel
theorem dX3_textAt_14 : decode cX3_textAt 14 = .ok (.iconst 0, 1) := by decide +kernel
theorem dX3_textAt_15 : decode cX3_textAt 15 = .ok (.aload_n 0, 1) := by decide +kernel
theorem dX3_textAt_16 : decode cX3_textAt 16 = .ok (.iload_n 1, 1) := by decide +kernel
theorem dX3_textAt_17 : decode cX3_textAt 17 = .ok (.invokevirtual 154, 3) := by decide +kernel
theorem dX3_textAt_20 : decode cX3_textAt 20 = .ok (.iconst 1, 1) := by decide +kernel
theorem dX3_textAt_21 : decode cX3_textAt 21 = .ok (.isub, 1) := by decide +kernel
theorem dX3_textAt_22 : decode cX3_textAt 22 = .ok (.invokestatic 33, 3) := by decide +kernel
theorem dX3_textAt_25 : decode cX3_textAt 25 = .ok (.ifCond .eq 14, 3) := by decide +kernel
theorem dX3_textAt_28 : decode cX3_textAt 28 = .ok (.aload_n 0, 1) := by decide +kernel
theorem dX3_textAt_29 : decode cX3_textAt 29 = .ok (.getfield 22, 3) := by decide +kernel
theorem dX3_textAt_32 : decode cX3_textAt 32 = .ok (.iload_n 2, 1) := by decide +kernel
theorem dX3_textAt_33 : decode cX3_textAt 33 = .ok (.invokevirtual 157, 3) := by decide +kernel
theorem dX3_textAt_36 : decode cX3_textAt 36 = .ok (.goto 8, 3) := by decide +kernel
theorem dX3_textAt_39 : decode cX3_textAt 39 = .ok (.aload_n 0, 1) := by decide +kernel
theorem dX3_textAt_40 : decode cX3_textAt 40 = .ok (.iconst 1, 1) := by decide +kernel
theorem dX3_textAt_41 : decode cX3_textAt 41 = .ok (.invokevirtual 66, 3) := by decide +kernel
theorem dX3_textAt_44 : decode cX3_textAt 44 = .ok (.ireturn, 1) := by decide +kernel
theorem dX3_isPartOf_0 : decode cX3_isPartOf 0 = .ok (.aload_n 0, 1) := by decide +kernel
theorem dX3_isPartOf_1 : decode cX3_isPartOf 1 = .ok (.iconst 0, 1) := by decide +kernel
theorem dX3_isPartOf_2 : decode cX3_isPartOf 2 = .ok (.putfield 26, 3) := by decide +kernel
theorem dX3_isPartOf_5 : decode cX3_isPartOf 5 = .ok (.aload_n 0, 1) := by decide +kernel
theorem dX3_isPartOf_6 : decode cX3_isPartOf 6 = .ok (.iload_n 1, 1) := by decide +kernel
theorem dX3_isPartOf_7 : decode cX3_isPartOf 7 = .ok (.invokevirtual 73, 3) := by decide +kernel
theorem dX3_isPartOf_10 : decode cX3_isPartOf 10 = .ok (.ifCond .eq 11, 3) := by decide +kernel
theorem dX3_isPartOf_13 : decode cX3_isPartOf 13 = .ok (.aload_n 0, 1) := by decide +kernel
theorem dX3_isPartOf_14 : decode cX3_isPartOf 14 = .ok (.iload_n 2, 1) := by decide +kernel
theorem dX3_isPartOf_15 : decode cX3_isPartOf 15 = .ok (.invokevirtual 73, 3) := by decide +kernel
theorem dX3_isPartOf_18 : decode cX3_isPartOf 18 = .ok (.ifCond .ne 9, 3) := by decide +kernel
theorem dX3_isPartOf_21 : decode cX3_isPartOf 21 = .ok (.aload_n 0, 1) := by decide +kernel
theorem dX3_isPartOf_22 : decode cX3_isPartOf 22 = .ok (.iconst 1, 1) := by decide +kernel
theorem dX3_isPartOf_23 : decode cX3_isPartOf 23 = .ok (.invokevirtual 98, 3) := by decide +kernel
theorem dX3_isPartOf_26 : decode cX3_isPartOf 26 = .ok (.ireturn, 1) := by decide +kernel
theorem dX3_isPartOf_27 : decode cX3_isPartOf 27 = .ok (.aload_n 0, 1) := by decide +kernel
theorem dX3_isPartOf_28 : decode cX3_isPartOf 28 = .ok (.iload_n 2, 1) := by decide +kernel
theorem dX3_isPartOf_29 : decode cX3_isPartOf 29 = .ok (.invokevirtual 88, 3) := by decide +kernel
theorem dX3_isPartOf_32 : decode cX3_isPartOf 32 = .ok (.ifCond .ne 5, 3) := by decide +kernel
theorem dX3_isPartOf_35 : decode cX3_isPartOf 35 = .ok (.iconst 0, 1) := by decide +kernel
theorem dX3_isPartOf_36 : decode cX3_isPartOf 36 = .ok (.ireturn, 1) := by decide +kernel
theorem dX3_isPartOf_37 : decode cX3_isPartOf 37 = .ok (.aload_n 0, 1) := by decide +kernel
theorem dX3_isPartOf_38 : decode cX3_isPartOf 38 = .ok (.iload_n 1, 1) := by decide +kernel
theorem dX3_isPartOf_39 : decode cX3_isPartOf 39 = .ok (.aload_n 0, 1) := by decide +kernel
theorem dX3_isPartOf_40 : decode cX3_isPartOf 40 = .ok (.getfield 13, 3) := by decide +kernel
theorem dX3_isPartOf_43 : decode cX3_isPartOf 43 = .ok (.invokevirtual 55, 3) := by decide +kernel
theorem dX3_isPartOf_46 : decode cX3_isPartOf 46 = .ok (.aload_n 0, 1) := by decide +kernel
theorem dX3_isPartOf_47 : decode cX3_isPartOf 47 = .ok (.iload_n 2, 1) := by decide +kernel
theorem dX3_isPartOf_48 : decode cX3_isPartOf 48 = .ok (.invokevirtual 91, 3) := by decide +kernel
theorem dX3_isPartOf_51 : decode cX3_isPartOf 51 = .ok (.aload_n 0, 1) := by decide +kernel
theorem dX3_isPartOf_52 : decode cX3_isPartOf 52 = .ok (.getfield 13, 3) := by decide +kernel
theorem dX3_isPartOf_55 : decode cX3_isPartOf 55 = .ok (.invokestatic 161, 3) := by decide +kernel
theorem dX3_isPartOf_58 : decode cX3_isPartOf 58 = .ok (.ifCond .ge 7, 3) := by decide +kernel
theorem dX3_isPartOf_61 : decode cX3_isPartOf 61 = .ok (.iconst 1, 1) := by decide +kernel
theorem dX3_isPartOf_62 : decode cX3_isPartOf 62 = .ok (.goto 4, 3) := by decide +kernel
theorem dX3_isPartOf_65 : decode cX3_isPartOf 65 = .ok (.iconst 0, 1) := by decide +kernel
theorem dX3_isPartOf_66 : decode cX3_isPartOf 66 = .ok (.ireturn, 1) := by decide +kernel
theorem dX3_parts_0 : decode cX3_parts 0 = .ok (.aload_n 0, 1) := by decide +kernel
theorem dX3_parts_1 : decode cX3_parts 1 = .ok (.iload_n 1, 1) := by decide +kernel
theorem dX3_parts_2 : decode cX3_parts 2 = .ok (.aload_n 0, 1) := by decide +kernel
theorem dX3_parts_3 : decode cX3_parts 3 = .ok (.getfield 13, 3) := by decide +kernel
theorem dX3_parts_6 : decode cX3_parts 6 = .ok (.invokevirtual 55, 3) := by decide +kernel
theorem dX3_parts_9 : decode cX3_parts 9 = .ok (.iconst 0, 1) := by decide +kernel
theorem dX3_parts_10 : decode cX3_parts 10 = .ok (.istore_n 2, 1) := by decide +kernel
theorem dX3_parts_11 : decode cX3_parts 11 = .ok (.bipush (-20), 2) := by decide +kernel
theorem dX3_parts_13 : decode cX3_parts 13 = .ok (.istore_n 3, 1) := by decide +kernel
theorem dX3_parts_14 : decode cX3_parts 14 = .ok (.iload_n 3, 1) := by decide +kernel
theorem dX3_parts_15 : decode cX3_parts 15 = .ok (.bipush 20, 2) := by decide +kernel
theorem dX3_parts_17 : decode cX3_parts 17 = .ok (.if_icmp .gt 85, 3) := by decide +kernel
theorem dX3_parts_20 : decode cX3_parts 20 = .ok (.aload_n 0, 1) := by decide +kernel
theorem dX3_parts_21 : decode cX3_parts 21 = .ok (.getfield 13, 3) := by decide +kernel
theorem dX3_parts_24 : decode cX3_parts 24 = .ok (.invokestatic 161, 3) := by decide +kernel
theorem dX3_parts_27 : decode cX3_parts 27 = .ok (.ifCond .le 75, 3) := by decide +kernel
theorem dX3_parts_30 : decode cX3_parts 30 = .ok (.aload_n 0, 1) := by decide +kernel
theorem dX3_parts_31 : decode cX3_parts 31 = .ok (.getfield 13, 3) := by decide +kernel
theorem dX3_parts_34 : decode cX3_parts 34 = .ok (.iload_n 3, 1) := by decide +kernel
theorem dX3_parts_35 : decode cX3_parts 35 = .ok (.invokestatic 58, 3) := by decide +kernel
theorem dX3_parts_38 : decode cX3_parts 38 = .ok (.ifCond .eq 9, 3) := by decide +kernel
theorem dX3_parts_41 : decode cX3_parts 41 = .ok (.iinc 3 1, 3) := by decide +kernel
theorem dX3_parts_44 : decode cX3_parts 44 = .ok (.goto (-30), 3) := by decide +kernel
theorem dX3_parts_47 : decode cX3_parts 47 = .ok (.aload_n 0, 1) := by decide +kernel
theorem dX3_parts_48 : decode cX3_parts 48 = .ok (.getfield 13, 3) := by decide +kernel
theorem dX3_parts_51 : decode cX3_parts 51 = .ok (.iload_n 3, 1) := by decide +kernel
theorem dX3_parts_52 : decode cX3_parts 52 = .ok (.iconst 0, 1) := by decide +kernel
theorem dX3_parts_53 : decode cX3_parts 53 = .ok (.invokestatic 62, 3) := by decide +kernel
theorem dX3_parts_56 : decode cX3_parts 56 = .ok (.iconst 0, 1) := by decide +kernel
theorem dX3_parts_57 : decode cX3_parts 57 = .ok (.istore 4, 2) := by decide +kernel
theorem dX3_parts_59 : decode cX3_parts 59 = .ok (.iload 4, 2) := by decide +kernel
theorem dX3_parts_61 : decode cX3_parts 61 = .ok (.bipush 8, 2) := by decide +kernel
theorem dX3_parts_63 : decode cX3_parts 63 = .ok (.if_icmp .ge 25, 3) := by decide +kernel
theorem dX3_parts_66 : decode cX3_parts 66 = .ok (.aload_n 0, 1) := by decide +kernel
theorem dX3_parts_67 : decode cX3_parts 67 = .ok (.getfield 13, 3) := by decide +kernel
theorem dX3_parts_70 : decode cX3_parts 70 = .ok (.iload 4, 2) := by decide +kernel
theorem dX3_parts_72 : decode cX3_parts 72 = .ok (.aload_n 0, 1) := by decide +kernel
theorem dX3_parts_73 : decode cX3_parts 73 = .ok (.getfield 13, 3) := by decide +kernel
theorem dX3_parts_76 : decode cX3_parts 76 = .ok (.iload 4, 2) := by decide +kernel
theorem dX3_parts_78 : decode cX3_parts 78 = .ok (.iconst 1, 1) := by decide +kernel
theorem dX3_parts_79 : decode cX3_parts 79 = .ok (.iadd, 1) := by decide +kernel
theorem dX3_parts_80 : decode cX3_parts 80 = .ok (.iaload, 1) := by decide +kernel
theorem dX3_parts_81 : decode cX3_parts 81 = .ok (.iastore, 1) := by decide +kernel
theorem dX3_parts_82 : decode cX3_parts 82 = .ok (.iinc 4 1, 3) := by decide +kernel
theorem dX3_parts_85 : decode cX3_parts 85 = .ok (.goto (-26), 3) := by decide +kernel
theorem dX3_parts_88 : decode cX3_parts 88 = .ok (.aload_n 0, 1) := by decide +kernel
theorem dX3_parts_89 : decode cX3_parts 89 = .ok (.getfield 13, 3) := by decide +kernel
theorem dX3_parts_92 : decode cX3_parts 92 = .ok (.bipush 8, 2) := by decide +kernel
theorem dX3_parts_94 : decode cX3_parts 94 = .ok (.iconst 0, 1) := by decide +kernel
theorem dX3_parts_95 : decode cX3_parts 95 = .ok (.iastore, 1) := by decide +kernel
theorem dX3_parts_96 : decode cX3_parts 96 = .ok (.iinc 2 1, 3) := by decide +kernel
theorem dX3_parts_99 : decode cX3_parts 99 = .ok (.goto (-85), 3) := by decide +kernel
theorem dX3_parts_102 : decode cX3_parts 102 = .ok (.iload_n 2, 1) := by decide +kernel
theorem dX3_parts_103 : decode cX3_parts 103 = .ok (.ireturn, 1) := by decide +kernel
theorem dX3_plainParts_0 : decode cX3_plainParts 0 = .ok (.aload_n 0, 1) := by decide +kernel
theorem dX3_plainParts_1 : decode cX3_plainParts 1 = .ok (.iconst 0, 1) := by decide +kernel
theorem dX3_plainParts_2 : decode cX3_plainParts 2 = .ok (.putfield 26, 3) := by decide +kernel
theorem dX3_plainParts_5 : decode cX3_plainParts 5 = .ok (.aload_n 0, 1) := by decide +kernel
theorem dX3_plainParts_6 : decode cX3_plainParts 6 = .ok (.iload_n 1, 1) := by decide +kernel
theorem dX3_plainParts_7 : decode cX3_plainParts 7 = .ok (.invokevirtual 73, 3) := by decide +kernel
theorem dX3_plainParts_10 : decode cX3_plainParts 10 = .ok (.ifCond .eq 11, 3) := by decide +kernel
theorem dX3_plainParts_13 : decode cX3_plainParts 13 = .ok (.aload_n 0, 1) := by decide +kernel
theorem dX3_plainParts_14 : decode cX3_plainParts 14 = .ok (.iload_n 1, 1) := by decide +kernel
theorem dX3_plainParts_15 : decode cX3_plainParts 15 = .ok (.invokevirtual 164, 3) := by decide +kernel
theorem dX3_plainParts_18 : decode cX3_plainParts 18 = .ok (.goto 8, 3) := by decide +kernel
theorem dX3_plainParts_21 : decode cX3_plainParts 21 = .ok (.aload_n 0, 1) := by decide +kernel
theorem dX3_plainParts_22 : decode cX3_plainParts 22 = .ok (.iconst 1, 1) := by decide +kernel
theorem dX3_plainParts_23 : decode cX3_plainParts 23 = .ok (.invokevirtual 66, 3) := by decide +kernel
theorem dX3_plainParts_26 : decode cX3_plainParts 26 = .ok (.ireturn, 1) := by decide +kernel
theorem dX3_shiftFor_0 : decode cX3_shiftFor 0 = .ok (.iconst 0, 1) := by decide +kernel
theorem dX3_shiftFor_1 : decode cX3_shiftFor 1 = .ok (.istore_n 2, 1) := by decide +kernel
theorem dX3_shiftFor_2 : decode cX3_shiftFor 2 = .ok (.bipush 99, 2) := by decide +kernel
theorem dX3_shiftFor_4 : decode cX3_shiftFor 4 = .ok (.istore_n 3, 1) := by decide +kernel
theorem dX3_shiftFor_5 : decode cX3_shiftFor 5 = .ok (.iconst 0, 1) := by decide +kernel
theorem dX3_shiftFor_6 : decode cX3_shiftFor 6 = .ok (.istore 4, 2) := by decide +kernel
theorem dX3_shiftFor_8 : decode cX3_shiftFor 8 = .ok (.iload 4, 2) := by decide +kernel
theorem dX3_shiftFor_10 : decode cX3_shiftFor 10 = .ok (.bipush 20, 2) := by decide +kernel
theorem dX3_shiftFor_12 : decode cX3_shiftFor 12 = .ok (.if_icmp .gt 102, 3) := by decide +kernel
theorem dX3_shiftFor_15 : decode cX3_shiftFor 15 = .ok (.iconst 1, 1) := by decide +kernel
theorem dX3_shiftFor_16 : decode cX3_shiftFor 16 = .ok (.istore 5, 2) := by decide +kernel
theorem dX3_shiftFor_18 : decode cX3_shiftFor 18 = .ok (.iload 5, 2) := by decide +kernel
theorem dX3_shiftFor_20 : decode cX3_shiftFor 20 = .ok (.iconst (-1), 1) := by decide +kernel
theorem dX3_shiftFor_21 : decode cX3_shiftFor 21 = .ok (.if_icmp .lt 87, 3) := by decide +kernel
theorem dX3_shiftFor_24 : decode cX3_shiftFor 24 = .ok (.aload_n 0, 1) := by decide +kernel
theorem dX3_shiftFor_25 : decode cX3_shiftFor 25 = .ok (.iload_n 1, 1) := by decide +kernel
theorem dX3_shiftFor_26 : decode cX3_shiftFor 26 = .ok (.aload_n 0, 1) := by decide +kernel
theorem dX3_shiftFor_27 : decode cX3_shiftFor 27 = .ok (.getfield 13, 3) := by decide +kernel
theorem dX3_shiftFor_30 : decode cX3_shiftFor 30 = .ok (.invokevirtual 55, 3) := by decide +kernel
theorem dX3_shiftFor_33 : decode cX3_shiftFor 33 = .ok (.aload_n 0, 1) := by decide +kernel
theorem dX3_shiftFor_34 : decode cX3_shiftFor 34 = .ok (.getfield 13, 3) := by decide +kernel
theorem dX3_shiftFor_37 : decode cX3_shiftFor 37 = .ok (.iload 5, 2) := by decide +kernel
theorem dX3_shiftFor_39 : decode cX3_shiftFor 39 = .ok (.iload 4, 2) := by decide +kernel
theorem dX3_shiftFor_41 : decode cX3_shiftFor 41 = .ok (.imul, 1) := by decide +kernel
theorem dX3_shiftFor_42 : decode cX3_shiftFor 42 = .ok (.invokestatic 77, 3) := by decide +kernel
theorem dX3_shiftFor_45 : decode cX3_shiftFor 45 = .ok (.iconst 0, 1) := by decide +kernel
theorem dX3_shiftFor_46 : decode cX3_shiftFor 46 = .ok (.istore 6, 2) := by decide +kernel
theorem dX3_shiftFor_48 : decode cX3_shiftFor 48 = .ok (.iconst 0, 1) := by decide +kernel
theorem dX3_shiftFor_49 : decode cX3_shiftFor 49 = .ok (.istore 7, 2) := by decide +kernel
theorem dX3_shiftFor_51 : decode cX3_shiftFor 51 = .ok (.iload 7, 2) := by decide +kernel
theorem dX3_shiftFor_53 : decode cX3_shiftFor 53 = .ok (.bipush 9, 2) := by decide +kernel
theorem dX3_shiftFor_55 : decode cX3_shiftFor 55 = .ok (.if_icmp .ge 29, 3) := by decide +kernel
theorem dX3_shiftFor_58 : decode cX3_shiftFor 58 = .ok (.iload 6, 2) := by decide +kernel
theorem dX3_shiftFor_60 : decode cX3_shiftFor 60 = .ok (.aload_n 0, 1) := by decide +kernel
theorem dX3_shiftFor_61 : decode cX3_shiftFor 61 = .ok (.getfield 13, 3) := by decide +kernel
theorem dX3_shiftFor_64 : decode cX3_shiftFor 64 = .ok (.iload 7, 2) := by decide +kernel
theorem dX3_shiftFor_66 : decode cX3_shiftFor 66 = .ok (.iaload, 1) := by decide +kernel
theorem dX3_shiftFor_67 : decode cX3_shiftFor 67 = .ok (.ifCond .ne 7, 3) := by decide +kernel
theorem dX3_shiftFor_70 : decode cX3_shiftFor 70 = .ok (.iconst 0, 1) := by decide +kernel
theorem dX3_shiftFor_71 : decode cX3_shiftFor 71 = .ok (.goto 4, 3) := by decide +kernel
theorem dX3_shiftFor_74 : decode cX3_shiftFor 74 = .ok (.iconst 1, 1) := by decide +kernel
theorem dX3_shiftFor_75 : decode cX3_shiftFor 75 = .ok (.iadd, 1) := by decide +kernel
theorem dX3_shiftFor_76 : decode cX3_shiftFor 76 = .ok (.istore 6, 2) := by decide +kernel
theorem dX3_shiftFor_78 : decode cX3_shiftFor 78 = .ok (.iinc 7 1, 3) := by decide +kernel
theorem dX3_shiftFor_81 : decode cX3_shiftFor 81 = .ok (.goto (-30), 3) := by decide +kernel
theorem dX3_shiftFor_84 : decode cX3_shiftFor 84 = .ok (.iload 6, 2) := by decide +kernel
theorem dX3_shiftFor_86 : decode cX3_shiftFor 86 = .ok (.iload_n 3, 1) := by decide +kernel
theorem dX3_shiftFor_87 : decode cX3_shiftFor 87 = .ok (.if_icmp .lt 6, 3) := by decide +kernel
theorem dX3_shiftFor_90 : decode cX3_shiftFor 90 = .ok (.goto 12, 3) := by decide +kernel
theorem dX3_shiftFor_93 : decode cX3_shiftFor 93 = .ok (.iload 5, 2) := by decide +kernel
theorem dX3_shiftFor_95 : decode cX3_shiftFor 95 = .ok (.iload 4, 2) := by decide +kernel
theorem dX3_shiftFor_97 : decode cX3_shiftFor 97 = .ok (.imul, 1) := by decide +kernel
theorem dX3_shiftFor_98 : decode cX3_shiftFor 98 = .ok (.istore_n 2, 1) := by decide +kernel
theorem dX3_shiftFor_99 : decode cX3_shiftFor 99 = .ok (.iload 6, 2) := by decide +kernel
theorem dX3_shiftFor_101 : decode cX3_shiftFor 101 = .ok (.istore_n 3, 1) := by decide +kernel
theorem dX3_shiftFor_102 : decode cX3_shiftFor 102 = .ok (.iinc 5 (-2), 3) := by decide +kernel
theorem dX3_shiftFor_105 : decode cX3_shiftFor 105 = .ok (.goto (-87), 3) := by decide +kernel
theorem dX3_shiftFor_108 : decode cX3_shiftFor 108 = .ok (.iinc 4 1, 3) := by decide +kernel
theorem dX3_shiftFor_111 : decode cX3_shiftFor 111 = .ok (.goto (-103), 3) := by decide +kernel
theorem dX3_shiftFor_114 : decode cX3_shiftFor 114 = .ok (.iload_n 2, 1) := by decide +kernel
theorem dX3_shiftFor_115 : decode cX3_shiftFor 115 = .ok (.ireturn, 1) := by decide +kernel
theorem dX3_bestShift_0 : decode cX3_bestShift 0 = .ok (.aload_n 0, 1) := by decide +kernel
theorem dX3_bestShift_1 : decode cX3_bestShift 1 = .ok (.iconst 0, 1) := by decide +kernel
theorem dX3_bestShift_2 : decode cX3_bestShift 2 = .ok (.putfield 26, 3) := by decide +kernel
theorem dX3_bestShift_5 : decode cX3_bestShift 5 = .ok (.aload_n 0, 1) := by decide +kernel
theorem dX3_bestShift_6 : decode cX3_bestShift 6 = .ok (.iload_n 1, 1) := by decide +kernel
theorem dX3_bestShift_7 : decode cX3_bestShift 7 = .ok (.invokevirtual 73, 3) := by decide +kernel
theorem dX3_bestShift_10 : decode cX3_bestShift 10 = .ok (.ifCond .eq 11, 3) := by decide +kernel
theorem dX3_bestShift_13 : decode cX3_bestShift 13 = .ok (.aload_n 0, 1) := by decide +kernel
theorem dX3_bestShift_14 : decode cX3_bestShift 14 = .ok (.iload_n 1, 1) := by decide +kernel
theorem dX3_bestShift_15 : decode cX3_bestShift 15 = .ok (.invokevirtual 167, 3) := by decide +kernel
theorem dX3_bestShift_18 : decode cX3_bestShift 18 = .ok (.goto 8, 3) := by decide +kernel
theorem dX3_bestShift_21 : decode cX3_bestShift 21 = .ok (.aload_n 0, 1) := by decide +kernel
theorem dX3_bestShift_22 : decode cX3_bestShift 22 = .ok (.iconst 1, 1) := by decide +kernel
theorem dX3_bestShift_23 : decode cX3_bestShift 23 = .ok (.invokevirtual 66, 3) := by decide +kernel
theorem dX3_bestShift_26 : decode cX3_bestShift 26 = .ok (.ireturn, 1) := by decide +kernel
theorem dX3_meanDegree_0 : decode cX3_meanDegree 0 = .ok (.aload_n 0, 1) := by decide +kernel
theorem dX3_meanDegree_1 : decode cX3_meanDegree 1 = .ok (.iconst 0, 1) := by decide +kernel
theorem dX3_meanDegree_2 : decode cX3_meanDegree 2 = .ok (.putfield 26, 3) := by decide +kernel
theorem dX3_meanDegree_5 : decode cX3_meanDegree 5 = .ok (.iconst 0, 1) := by decide +kernel
theorem dX3_meanDegree_6 : decode cX3_meanDegree 6 = .ok (.istore_n 1, 1) := by decide +kernel
theorem dX3_meanDegree_7 : decode cX3_meanDegree 7 = .ok (.iconst 0, 1) := by decide +kernel
theorem dX3_meanDegree_8 : decode cX3_meanDegree 8 = .ok (.istore_n 2, 1) := by decide +kernel
theorem dX3_meanDegree_9 : decode cX3_meanDegree 9 = .ok (.iload_n 2, 1) := by decide +kernel
theorem dX3_meanDegree_10 : decode cX3_meanDegree 10 = .ok (.aload_n 0, 1) := by decide +kernel
theorem dX3_meanDegree_11 : decode cX3_meanDegree 11 = .ok (.getfield 30, 3) := by decide +kernel
theorem dX3_meanDegree_14 : decode cX3_meanDegree 14 = .ok (.if_icmp .ge 17, 3) := by decide +kernel
theorem dX3_meanDegree_17 : decode cX3_meanDegree 17 = .ok (.iload_n 1, 1) := by decide +kernel
theorem dX3_meanDegree_18 : decode cX3_meanDegree 18 = .ok (.aload_n 0, 1) := by decide +kernel
theorem dX3_meanDegree_19 : decode cX3_meanDegree 19 = .ok (.iload_n 2, 1) := by decide +kernel
theorem dX3_meanDegree_20 : decode cX3_meanDegree 20 = .ok (.invokevirtual 51, 3) := by decide +kernel
theorem dX3_meanDegree_23 : decode cX3_meanDegree 23 = .ok (.iadd, 1) := by decide +kernel
theorem dX3_meanDegree_24 : decode cX3_meanDegree 24 = .ok (.istore_n 1, 1) := by decide +kernel
theorem dX3_meanDegree_25 : decode cX3_meanDegree 25 = .ok (.iinc 2 1, 3) := by decide +kernel
theorem dX3_meanDegree_28 : decode cX3_meanDegree 28 = .ok (.goto (-19), 3) := by decide +kernel
theorem dX3_meanDegree_31 : decode cX3_meanDegree 31 = .ok (.aload_n 0, 1) := by decide +kernel
theorem dX3_meanDegree_32 : decode cX3_meanDegree 32 = .ok (.getfield 30, 3) := by decide +kernel
theorem dX3_meanDegree_35 : decode cX3_meanDegree 35 = .ok (.ifCond .ne 7, 3) := by decide +kernel
theorem dX3_meanDegree_38 : decode cX3_meanDegree 38 = .ok (.dconst 0, 1) := by decide +kernel
theorem dX3_meanDegree_39 : decode cX3_meanDegree 39 = .ok (.goto 11, 3) := by decide +kernel
theorem dX3_meanDegree_42 : decode cX3_meanDegree 42 = .ok (.iload_n 1, 1) := by decide +kernel
theorem dX3_meanDegree_43 : decode cX3_meanDegree 43 = .ok (.i2d, 1) := by decide +kernel
theorem dX3_meanDegree_44 : decode cX3_meanDegree 44 = .ok (.aload_n 0, 1) := by decide +kernel
theorem dX3_meanDegree_45 : decode cX3_meanDegree 45 = .ok (.getfield 30, 3) := by decide +kernel
theorem dX3_meanDegree_48 : decode cX3_meanDegree 48 = .ok (.i2d, 1) := by decide +kernel
theorem dX3_meanDegree_49 : decode cX3_meanDegree 49 = .ok (.ddiv, 1) := by decide +kernel
theorem dX3_meanDegree_50 : decode cX3_meanDegree 50 = .ok (.dreturn, 1) := by decide +kernel
theorem dX3_digest_0 : decode cX3_digest 0 = .ok (.aload_n 0, 1) := by decide +kernel
theorem dX3_digest_1 : decode cX3_digest 1 = .ok (.iconst 0, 1) := by decide +kernel
theorem dX3_digest_2 : decode cX3_digest 2 = .ok (.putfield 26, 3) := by decide +kernel
theorem dX3_digest_5 : decode cX3_digest 5 = .ok (.ldc2_w 170, 3) := by decide +kernel
theorem dX3_digest_8 : decode cX3_digest 8 = .ok (.aload_n 0, 1) := by decide +kernel
theorem dX3_digest_9 : decode cX3_digest 9 = .ok (.getfield 30, 3) := by decide +kernel
theorem dX3_digest_12 : decode cX3_digest 12 = .ok (.i2l, 1) := by decide +kernel
theorem dX3_digest_13 : decode cX3_digest 13 = .ok (.ladd, 1) := by decide +kernel
theorem dX3_digest_14 : decode cX3_digest 14 = .ok (.lstore_n 1, 1) := by decide +kernel
theorem dX3_digest_15 : decode cX3_digest 15 = .ok (.iconst 0, 1) := by decide +kernel
theorem dX3_digest_16 : decode cX3_digest 16 = .ok (.istore_n 3, 1) := by decide +kernel
theorem dX3_digest_17 : decode cX3_digest 17 = .ok (.iload_n 3, 1) := by decide +kernel
theorem dX3_digest_18 : decode cX3_digest 18 = .ok (.aload_n 0, 1) := by decide +kernel
theorem dX3_digest_19 : decode cX3_digest 19 = .ok (.getfield 30, 3) := by decide +kernel
theorem dX3_digest_22 : decode cX3_digest 22 = .ok (.if_icmp .ge 197, 3) := by decide +kernel
theorem dX3_digest_25 : decode cX3_digest 25 = .ok (.lload_n 1, 1) := by decide +kernel
theorem dX3_digest_26 : decode cX3_digest 26 = .ok (.ldc2_w 172, 3) := by decide +kernel
theorem dX3_digest_29 : decode cX3_digest 29 = .ok (.lmul, 1) := by decide +kernel
theorem dX3_digest_30 : decode cX3_digest 30 = .ok (.aload_n 0, 1) := by decide +kernel
theorem dX3_digest_31 : decode cX3_digest 31 = .ok (.iload_n 3, 1) := by decide +kernel
theorem dX3_digest_32 : decode cX3_digest 32 = .ok (.invokevirtual 51, 3) := by decide +kernel
theorem dX3_digest_35 : decode cX3_digest 35 = .ok (.i2l, 1) := by decide +kernel
theorem dX3_digest_36 : decode cX3_digest 36 = .ok (.ladd, 1) := by decide +kernel
theorem dX3_digest_37 : decode cX3_digest 37 = .ok (.ldc2_w 172, 3) := by decide +kernel
theorem dX3_digest_40 : decode cX3_digest 40 = .ok (.lmul, 1) := by decide +kernel
theorem dX3_digest_41 : decode cX3_digest 41 = .ok (.aload_n 0, 1) := by decide +kernel
theorem dX3_digest_42 : decode cX3_digest 42 = .ok (.iload_n 3, 1) := by decide +kernel
theorem dX3_digest_43 : decode cX3_digest 43 = .ok (.invokevirtual 88, 3) := by decide +kernel
theorem dX3_digest_46 : decode cX3_digest 46 = .ok (.ifCond .eq 7, 3) := by decide +kernel
theorem dX3_digest_49 : decode cX3_digest 49 = .ok (.iconst 1, 1) := by decide +kernel
theorem dX3_digest_50 : decode cX3_digest 50 = .ok (.goto 4, 3) := by decide +kernel
theorem dX3_digest_53 : decode cX3_digest 53 = .ok (.iconst 0, 1) := by decide +kernel
theorem dX3_digest_54 : decode cX3_digest 54 = .ok (.i2l, 1) := by decide +kernel
theorem dX3_digest_55 : decode cX3_digest 55 = .ok (.ladd, 1) := by decide +kernel
theorem dX3_digest_56 : decode cX3_digest 56 = .ok (.ldc2_w 172, 3) := by decide +kernel
theorem dX3_digest_59 : decode cX3_digest 59 = .ok (.lmul, 1) := by decide +kernel
theorem dX3_digest_60 : decode cX3_digest 60 = .ok (.aload_n 0, 1) := by decide +kernel
theorem dX3_digest_61 : decode cX3_digest 61 = .ok (.iload_n 3, 1) := by decide +kernel
theorem dX3_digest_62 : decode cX3_digest 62 = .ok (.invokevirtual 107, 3) := by decide +kernel
theorem dX3_digest_65 : decode cX3_digest 65 = .ok (.ladd, 1) := by decide +kernel
theorem dX3_digest_66 : decode cX3_digest 66 = .ok (.lstore_n 1, 1) := by decide +kernel
theorem dX3_digest_67 : decode cX3_digest 67 = .ok (.bipush 8, 2) := by decide +kernel
theorem dX3_digest_69 : decode cX3_digest 69 = .ok (.newarray .int, 2) := by decide +kernel
theorem dX3_digest_71 : decode cX3_digest 71 = .ok (.dup, 1) := by decide +kernel
theorem dX3_digest_72 : decode cX3_digest 72 = .ok (.iconst 0, 1) := by decide +kernel
theorem dX3_digest_73 : decode cX3_digest 73 = .ok (.aload_n 0, 1) := by decide +kernel
theorem dX3_digest_74 : decode cX3_digest 74 = .ok (.iload_n 3, 1) := by decide +kernel
theorem dX3_digest_75 : decode cX3_digest 75 = .ok (.invokevirtual 116, 3) := by decide +kernel
theorem dX3_digest_78 : decode cX3_digest 78 = .ok (.iastore, 1) := by decide +kernel
theorem dX3_digest_79 : decode cX3_digest 79 = .ok (.dup, 1) := by decide +kernel
theorem dX3_digest_80 : decode cX3_digest 80 = .ok (.iconst 1, 1) := by decide +kernel
theorem dX3_digest_81 : decode cX3_digest 81 = .ok (.aload_n 0, 1) := by decide +kernel
theorem dX3_digest_82 : decode cX3_digest 82 = .ok (.iload_n 3, 1) := by decide +kernel
theorem dX3_digest_83 : decode cX3_digest 83 = .ok (.iconst 3, 1) := by decide +kernel
theorem dX3_digest_84 : decode cX3_digest 84 = .ok (.invokevirtual 119, 3) := by decide +kernel
theorem dX3_digest_87 : decode cX3_digest 87 = .ok (.iastore, 1) := by decide +kernel
theorem dX3_digest_88 : decode cX3_digest 88 = .ok (.dup, 1) := by decide +kernel
theorem dX3_digest_89 : decode cX3_digest 89 = .ok (.iconst 2, 1) := by decide +kernel
theorem dX3_digest_90 : decode cX3_digest 90 = .ok (.aload_n 0, 1) := by decide +kernel
theorem dX3_digest_91 : decode cX3_digest 91 = .ok (.iload_n 3, 1) := by decide +kernel
theorem dX3_digest_92 : decode cX3_digest 92 = .ok (.invokevirtual 122, 3) := by decide +kernel
theorem dX3_digest_95 : decode cX3_digest 95 = .ok (.iastore, 1) := by decide +kernel
theorem dX3_digest_96 : decode cX3_digest 96 = .ok (.dup, 1) := by decide +kernel
theorem dX3_digest_97 : decode cX3_digest 97 = .ok (.iconst 3, 1) := by decide +kernel
theorem dX3_digest_98 : decode cX3_digest 98 = .ok (.aload_n 0, 1) := by decide +kernel
theorem dX3_digest_99 : decode cX3_digest 99 = .ok (.iload_n 3, 1) := by decide +kernel
theorem dX3_digest_100 : decode cX3_digest 100 = .ok (.invokevirtual 129, 3) := by decide +kernel
theorem dX3_digest_103 : decode cX3_digest 103 = .ok (.iastore, 1) := by decide +kernel
theorem dX3_digest_104 : decode cX3_digest 104 = .ok (.dup, 1) := by decide +kernel
theorem dX3_digest_105 : decode cX3_digest 105 = .ok (.iconst 4, 1) := by decide +kernel
theorem dX3_digest_106 : decode cX3_digest 106 = .ok (.aload_n 0, 1) := by decide +kernel
theorem dX3_digest_107 : decode cX3_digest 107 = .ok (.iload_n 3, 1) := by decide +kernel
theorem dX3_digest_108 : decode cX3_digest 108 = .ok (.invokevirtual 132, 3) := by decide +kernel
theorem dX3_digest_111 : decode cX3_digest 111 = .ok (.iastore, 1) := by decide +kernel
theorem dX3_digest_112 : decode cX3_digest 112 = .ok (.dup, 1) := by decide +kernel
theorem dX3_digest_113 : decode cX3_digest 113 = .ok (.iconst 5, 1) := by decide +kernel
theorem dX3_digest_114 : decode cX3_digest 114 = .ok (.aload_n 0, 1) := by decide +kernel
theorem dX3_digest_115 : decode cX3_digest 115 = .ok (.iload_n 3, 1) := by decide +kernel
theorem dX3_digest_116 : decode cX3_digest 116 = .ok (.invokevirtual 154, 3) := by decide +kernel
theorem dX3_digest_119 : decode cX3_digest 119 = .ok (.iastore, 1) := by decide +kernel
theorem dX3_digest_120 : decode cX3_digest 120 = .ok (.dup, 1) := by decide +kernel
theorem dX3_digest_121 : decode cX3_digest 121 = .ok (.bipush 6, 2) := by decide +kernel
theorem dX3_digest_123 : decode cX3_digest 123 = .ok (.aload_n 0, 1) := by decide +kernel
theorem dX3_digest_124 : decode cX3_digest 124 = .ok (.iload_n 3, 1) := by decide +kernel
theorem dX3_digest_125 : decode cX3_digest 125 = .ok (.invokevirtual 164, 3) := by decide +kernel
theorem dX3_digest_128 : decode cX3_digest 128 = .ok (.iastore, 1) := by decide +kernel
theorem dX3_digest_129 : decode cX3_digest 129 = .ok (.dup, 1) := by decide +kernel
theorem dX3_digest_130 : decode cX3_digest 130 = .ok (.bipush 7, 2) := by decide +kernel
theorem dX3_digest_132 : decode cX3_digest 132 = .ok (.aload_n 0, 1) := by decide +kernel
theorem dX3_digest_133 : decode cX3_digest 133 = .ok (.iload_n 3, 1) := by decide +kernel
theorem dX3_digest_134 : decode cX3_digest 134 = .ok (.invokevirtual 167, 3) := by decide +kernel
theorem dX3_digest_137 : decode cX3_digest 137 = .ok (.iastore, 1) := by decide +kernel
theorem dX3_digest_138 : decode cX3_digest 138 = .ok (.astore 4, 2) := by decide +kernel
theorem dX3_digest_140 : decode cX3_digest 140 = .ok (.aload 4, 2) := by decide +kernel
theorem dX3_digest_142 : decode cX3_digest 142 = .ok (.astore 5, 2) := by decide +kernel
theorem dX3_digest_144 : decode cX3_digest 144 = .ok (.aload 5, 2) := by decide +kernel
theorem dX3_digest_146 : decode cX3_digest 146 = .ok (.arraylength, 1) := by decide +kernel
theorem dX3_digest_147 : decode cX3_digest 147 = .ok (.istore 6, 2) := by decide +kernel
theorem dX3_digest_149 : decode cX3_digest 149 = .ok (.iconst 0, 1) := by decide +kernel
theorem dX3_digest_150 : decode cX3_digest 150 = .ok (.istore 7, 2) := by decide +kernel
theorem dX3_digest_152 : decode cX3_digest 152 = .ok (.iload 7, 2) := by decide +kernel
theorem dX3_digest_154 : decode cX3_digest 154 = .ok (.iload 6, 2) := by decide +kernel
theorem dX3_digest_156 : decode cX3_digest 156 = .ok (.if_icmp .ge 26, 3) := by decide +kernel
theorem dX3_digest_159 : decode cX3_digest 159 = .ok (.aload 5, 2) := by decide +kernel
theorem dX3_digest_161 : decode cX3_digest 161 = .ok (.iload 7, 2) := by decide +kernel
theorem dX3_digest_163 : decode cX3_digest 163 = .ok (.iaload, 1) := by decide +kernel
theorem dX3_digest_164 : decode cX3_digest 164 = .ok (.istore 8, 2) := by decide +kernel
theorem dX3_digest_166 : decode cX3_digest 166 = .ok (.lload_n 1, 1) := by decide +kernel
theorem dX3_digest_167 : decode cX3_digest 167 = .ok (.ldc2_w 172, 3) := by decide +kernel
theorem dX3_digest_170 : decode cX3_digest 170 = .ok (.lmul, 1) := by decide +kernel
theorem dX3_digest_171 : decode cX3_digest 171 = .ok (.iload 8, 2) := by decide +kernel
theorem dX3_digest_173 : decode cX3_digest 173 = .ok (.i2l, 1) := by decide +kernel
theorem dX3_digest_174 : decode cX3_digest 174 = .ok (.ladd, 1) := by decide +kernel
theorem dX3_digest_175 : decode cX3_digest 175 = .ok (.lstore_n 1, 1) := by decide +kernel
theorem dX3_digest_176 : decode cX3_digest 176 = .ok (.iinc 7 1, 3) := by decide +kernel
theorem dX3_digest_179 : decode cX3_digest 179 = .ok (.goto (-27), 3) := by decide +kernel
theorem dX3_digest_182 : decode cX3_digest 182 = .ok (.iconst 0, 1) := by decide +kernel
theorem dX3_digest_183 : decode cX3_digest 183 = .ok (.istore 5, 2) := by decide +kernel
theorem dX3_digest_185 : decode cX3_digest 185 = .ok (.iload 5, 2) := by decide +kernel
theorem dX3_digest_187 : decode cX3_digest 187 = .ok (.bipush 9, 2) := by decide +kernel
theorem dX3_digest_189 : decode cX3_digest 189 = .ok (.if_icmp .ge 24, 3) := by decide +kernel
theorem dX3_digest_192 : decode cX3_digest 192 = .ok (.lload_n 1, 1) := by decide +kernel
theorem dX3_digest_193 : decode cX3_digest 193 = .ok (.ldc2_w 172, 3) := by decide +kernel
theorem dX3_digest_196 : decode cX3_digest 196 = .ok (.lmul, 1) := by decide +kernel
theorem dX3_digest_197 : decode cX3_digest 197 = .ok (.aload_n 0, 1) := by decide +kernel
theorem dX3_digest_198 : decode cX3_digest 198 = .ok (.iload_n 3, 1) := by decide +kernel
theorem dX3_digest_199 : decode cX3_digest 199 = .ok (.iload 5, 2) := by decide +kernel
theorem dX3_digest_201 : decode cX3_digest 201 = .ok (.invokevirtual 47, 3) := by decide +kernel
theorem dX3_digest_204 : decode cX3_digest 204 = .ok (.i2l, 1) := by decide +kernel
theorem dX3_digest_205 : decode cX3_digest 205 = .ok (.ladd, 1) := by decide +kernel
theorem dX3_digest_206 : decode cX3_digest 206 = .ok (.lstore_n 1, 1) := by decide +kernel
theorem dX3_digest_207 : decode cX3_digest 207 = .ok (.iinc 5 1, 3) := by decide +kernel
theorem dX3_digest_210 : decode cX3_digest 210 = .ok (.goto (-25), 3) := by decide +kernel
theorem dX3_digest_213 : decode cX3_digest 213 = .ok (.iinc 3 1, 3) := by decide +kernel
theorem dX3_digest_216 : decode cX3_digest 216 = .ok (.goto (-199), 3) := by decide +kernel
theorem dX3_digest_219 : decode cX3_digest 219 = .ok (.lload_n 1, 1) := by decide +kernel
theorem dX3_digest_220 : decode cX3_digest 220 = .ok (.lreturn, 1) := by decide +kernel
