set_option maxRecDepth 20000 in
theorem gJ2_compress_5af95_J2_getChar_3b067 : GoodIn wsJ2_compress_5af95 (va_wsS RJ2 71 yJ2_getChar_3b067 wsJ2_getChar_3b067) := goodIn_app (goodIn_of _ (by decide +kernel)) ggJ2_compress_5af95_J2_getChar_3b067
theorem dJ2_compress_5af95_0 : decode cJ2_compress_5af95 0 = .ok (.iload_n 1, 1) := by decide +kernel
theorem dJ2_compress_5af95_1 : decode cJ2_compress_5af95 1 = .ok (.iload 4, 2) := by decide +kernel
theorem dJ2_compress_5af95_3 : decode cJ2_compress_5af95 3 = .ok (.aload_n 0, 1) := by decide +kernel
theorem dJ2_compress_5af95_4 : decode cJ2_compress_5af95 4 = .ok (.invokestatic 173, 3) := by decide +kernel
theorem dJ2_compress_5af95_7 : decode cJ2_compress_5af95 7 = .ok (.iconst 0, 1) := by decide +kernel
theorem dJ2_compress_5af95_8 : decode cJ2_compress_5af95 8 = .ok (.istore 5, 2) := by decide +kernel
theorem dJ2_compress_5af95_10 : decode cJ2_compress_5af95 10 = .ok (.iload 5, 2) := by decide +kernel
theorem dJ2_compress_5af95_12 : decode cJ2_compress_5af95 12 = .ok (.iload 4, 2) := by decide +kernel
theorem dJ2_compress_5af95_14 : decode cJ2_compress_5af95 14 = .ok (.if_icmp .ge 39, 3) := by decide +kernel
theorem dJ2_compress_5af95_17 : decode cJ2_compress_5af95 17 = .ok (.aload_n 0, 1) := by decide +kernel
theorem dJ2_compress_5af95_18 : decode cJ2_compress_5af95 18 = .ok (.iload_n 1, 1) := by decide +kernel
theorem dJ2_compress_5af95_19 : decode cJ2_compress_5af95 19 = .ok (.invokestatic 71, 3) := by decide +kernel
theorem dJ2_compress_5af95_22 : decode cJ2_compress_5af95 22 = .ok (.istore 6, 2) := by decide +kernel
theorem dJ2_compress_5af95_24 : decode cJ2_compress_5af95 24 = .ok (.iload 6, 2) := by decide +kernel
theorem dJ2_compress_5af95_26 : decode cJ2_compress_5af95 26 = .ok (.sipush 255, 3) := by decide +kernel
theorem dJ2_compress_5af95_29 : decode cJ2_compress_5af95 29 = .ok (.if_icmp .le 6, 3) := by decide +kernel
theorem dJ2_compress_5af95_32 : decode cJ2_compress_5af95 32 = .ok (.iload 5, 2) := by decide +kernel
theorem dJ2_compress_5af95_34 : decode cJ2_compress_5af95 34 = .ok (.ireturn, 1) := by decide +kernel
theorem dJ2_compress_5af95_35 : decode cJ2_compress_5af95 35 = .ok (.aload_n 2, 1) := by decide +kernel
theorem dJ2_compress_5af95_36 : decode cJ2_compress_5af95 36 = .ok (.iload_n 3, 1) := by decide +kernel
theorem dJ2_compress_5af95_37 : decode cJ2_compress_5af95 37 = .ok (.iload 6, 2) := by decide +kernel
theorem dJ2_compress_5af95_39 : decode cJ2_compress_5af95 39 = .ok (.i2b, 1) := by decide +kernel
theorem dJ2_compress_5af95_40 : decode cJ2_compress_5af95 40 = .ok (.bastore, 1) := by decide +kernel
theorem dJ2_compress_5af95_41 : decode cJ2_compress_5af95 41 = .ok (.iinc 1 1, 3) := by decide +kernel
theorem dJ2_compress_5af95_44 : decode cJ2_compress_5af95 44 = .ok (.iinc 3 1, 3) := by decide +kernel
theorem dJ2_compress_5af95_47 : decode cJ2_compress_5af95 47 = .ok (.iinc 5 1, 3) := by decide +kernel
theorem dJ2_compress_5af95_50 : decode cJ2_compress_5af95 50 = .ok (.goto (-40), 3) := by decide +kernel
theorem dJ2_compress_5af95_53 : decode cJ2_compress_5af95 53 = .ok (.iload 4, 2) := by decide +kernel
theorem dJ2_compress_5af95_55 : decode cJ2_compress_5af95 55 = .ok (.ireturn, 1) := by decide +kernel
set_option maxRecDepth 20000 in
theorem ggJ2_getChars_46870_J2_checkBoundsBeginEnd_d044e : GoodIn wsJ2_getChars_46870 wsJ2_checkBoundsBeginEnd_d044e := goodIn_r _ [5, 6, 7, 4, 8, 9, 10, 11, 12, 13, 14, 15, 16, 17] (by decide +kernel) (by decide +kernel)
set_option maxRecDepth 20000 in
theorem gJ2_getChars_46870_J2_checkBoundsBeginEnd_d044e : GoodIn wsJ2_getChars_46870 (va_wsS RJ2 96 yJ2_checkBoundsBeginEnd_d044e wsJ2_checkBoundsBeginEnd_d044e) := goodIn_app (goodIn_of _ (by decide +kernel)) ggJ2_getChars_46870_J2_checkBoundsBeginEnd_d044e
set_option maxRecDepth 20000 in
theorem ggJ2_getChars_46870_J2_getChars_ba4f3 : GoodIn wsJ2_getChars_46870 wsJ2_getChars_ba4f3 := goodIn_r _ [20, 21, 22, 23, 24, 4, 25, 1, 26, 27, 6, 7, 8] (by decide +kernel) (by decide +kernel)
set_option maxRecDepth 20000 in
theorem gJ2_getChars_46870_J2_getChars_ba4f3 : GoodIn wsJ2_getChars_46870 (va_wsS RJ2 393 yJ2_getChars_ba4f3 wsJ2_getChars_ba4f3) := goodIn_app (goodIn_of _ (by decide +kernel)) ggJ2_getChars_46870_J2_getChars_ba4f3
theorem dJ2_getChars_46870_0 : decode cJ2_getChars_46870 0 = .ok (.iload_n 1, 1) := by decide +kernel
theorem dJ2_getChars_46870_1 : decode cJ2_getChars_46870 1 = .ok (.iload_n 2, 1) := by decide +kernel
theorem dJ2_getChars_46870_2 : decode cJ2_getChars_46870 2 = .ok (.aload_n 3, 1) := by decide +kernel
theorem dJ2_getChars_46870_3 : decode cJ2_getChars_46870 3 = .ok (.invokestatic 96, 3) := by decide +kernel
theorem dJ2_getChars_46870_6 : decode cJ2_getChars_46870 6 = .ok (.iload_n 0, 1) := by decide +kernel
theorem dJ2_getChars_46870_7 : decode cJ2_getChars_46870 7 = .ok (.iload_n 2, 1) := by decide +kernel
theorem dJ2_getChars_46870_8 : decode cJ2_getChars_46870 8 = .ok (.aload_n 3, 1) := by decide +kernel
theorem dJ2_getChars_46870_9 : decode cJ2_getChars_46870 9 = .ok (.invokestatic 393, 3) := by decide +kernel
theorem dJ2_getChars_46870_12 : decode cJ2_getChars_46870 12 = .ok (.istore 4, 2) := by decide +kernel
theorem dJ2_getChars_46870_14 : decode cJ2_getChars_46870 14 = .ok (.getstatic 44, 3) := by decide +kernel
theorem dJ2_getChars_46870_17 : decode cJ2_getChars_46870 17 = .ok (.ifCond .ne 17, 3) := by decide +kernel
theorem dJ2_getChars_46870_20 : decode cJ2_getChars_46870 20 = .ok (.iload_n 1, 1) := by decide +kernel
theorem dJ2_getChars_46870_21 : decode cJ2_getChars_46870 21 = .ok (.iload 4, 2) := by decide +kernel
theorem dJ2_getChars_46870_23 : decode cJ2_getChars_46870 23 = .ok (.if_icmp .eq 11, 3) := by decide +kernel
theorem dJ2_getChars_46870_26 : decode cJ2_getChars_46870 26 = .ok (.new 52, 3) := by decide +kernel
theorem dJ2_getChars_46870_29 : decode cJ2_getChars_46870 29 = .ok (.dup, 1) := by decide +kernel
theorem dJ2_getChars_46870_30 : decode cJ2_getChars_46870 30 = .ok (.invokespecial 66, 3) := by decide +kernel
theorem dJ2_getChars_46870_33 : decode cJ2_getChars_46870 33 = .ok (.athrow, 1) := by decide +kernel
theorem dJ2_getChars_46870_34 : decode cJ2_getChars_46870 34 = .ok (.iload 4, 2) := by decide +kernel
theorem dJ2_getChars_46870_36 : decode cJ2_getChars_46870 36 = .ok (.ireturn, 1) := by decide +kernel
set_option maxRecDepth 20000 in
theorem ggJ2_putCharsAt_cd4e5_J2_checkBoundsBeginEnd_d044e : GoodIn wsJ2_putCharsAt_cd4e5 wsJ2_checkBoundsBeginEnd_d044e := goodIn_r _ [5, 6, 7, 4, 8, 9, 10, 11, 12, 13, 14, 15, 16, 17] (by decide +kernel) (by decide +kernel)
set_option maxRecDepth 20000 in
theorem gJ2_putCharsAt_cd4e5_J2_checkBoundsBeginEnd_d044e : GoodIn wsJ2_putCharsAt_cd4e5 (va_wsS RJ2 96 yJ2_checkBoundsBeginEnd_d044e wsJ2_checkBoundsBeginEnd_d044e) := goodIn_app (goodIn_of _ (by decide +kernel)) ggJ2_putCharsAt_cd4e5_J2_checkBoundsBeginEnd_d044e
set_option maxRecDepth 20000 in
theorem ggJ2_putCharsAt_cd4e5_J2_putChar_b72d1 : GoodIn wsJ2_putCharsAt_cd4e5 wsJ2_putChar_b72d1 := goodIn_r _ [20, 1, 21, 22, 6, 7, 4, 8] (by decide +kernel) (by decide +kernel)
set_option maxRecDepth 20000 in
theorem gJ2_putCharsAt_cd4e5_J2_putChar_b72d1 : GoodIn wsJ2_putCharsAt_cd4e5 (va_wsS RJ2 111 yJ2_putChar_b72d1 wsJ2_putChar_b72d1) := goodIn_app (goodIn_of _ (by decide +kernel)) ggJ2_putCharsAt_cd4e5_J2_putChar_b72d1
theorem dJ2_putCharsAt_cd4e5_0 : decode cJ2_putCharsAt_cd4e5 0 = .ok (.iload_n 1, 1) := by decide +kernel
theorem dJ2_putCharsAt_cd4e5_1 : decode cJ2_putCharsAt_cd4e5 1 = .ok (.iconst 4, 1) := by decide +kernel
theorem dJ2_putCharsAt_cd4e5_2 : decode cJ2_putCharsAt_cd4e5 2 = .ok (.iadd, 1) := by decide +kernel
theorem dJ2_putCharsAt_cd4e5_3 : decode cJ2_putCharsAt_cd4e5 3 = .ok (.istore 6, 2) := by decide +kernel
theorem dJ2_putCharsAt_cd4e5_5 : decode cJ2_putCharsAt_cd4e5 5 = .ok (.iload_n 1, 1) := by decide +kernel
theorem dJ2_putCharsAt_cd4e5_6 : decode cJ2_putCharsAt_cd4e5 6 = .ok (.iload 6, 2) := by decide +kernel
theorem dJ2_putCharsAt_cd4e5_8 : decode cJ2_putCharsAt_cd4e5 8 = .ok (.aload_n 0, 1) := by decide +kernel
theorem dJ2_putCharsAt_cd4e5_9 : decode cJ2_putCharsAt_cd4e5 9 = .ok (.invokestatic 96, 3) := by decide +kernel
theorem dJ2_putCharsAt_cd4e5_12 : decode cJ2_putCharsAt_cd4e5 12 = .ok (.aload_n 0, 1) := by decide +kernel
theorem dJ2_putCharsAt_cd4e5_13 : decode cJ2_putCharsAt_cd4e5 13 = .ok (.iload_n 1, 1) := by decide +kernel
theorem dJ2_putCharsAt_cd4e5_14 : decode cJ2_putCharsAt_cd4e5 14 = .ok (.iinc 1 1, 3) := by decide +kernel
theorem dJ2_putCharsAt_cd4e5_17 : decode cJ2_putCharsAt_cd4e5 17 = .ok (.iload_n 2, 1) := by decide +kernel
theorem dJ2_putCharsAt_cd4e5_18 : decode cJ2_putCharsAt_cd4e5 18 = .ok (.invokestatic 111, 3) := by decide +kernel
theorem dJ2_putCharsAt_cd4e5_21 : decode cJ2_putCharsAt_cd4e5 21 = .ok (.aload_n 0, 1) := by decide +kernel
theorem dJ2_putCharsAt_cd4e5_22 : decode cJ2_putCharsAt_cd4e5 22 = .ok (.iload_n 1, 1) := by decide +kernel
theorem dJ2_putCharsAt_cd4e5_23 : decode cJ2_putCharsAt_cd4e5 23 = .ok (.iinc 1 1, 3) := by decide +kernel
theorem dJ2_putCharsAt_cd4e5_26 : decode cJ2_putCharsAt_cd4e5 26 = .ok (.iload_n 3, 1) := by decide +kernel
theorem dJ2_putCharsAt_cd4e5_27 : decode cJ2_putCharsAt_cd4e5 27 = .ok (.invokestatic 111, 3) := by decide +kernel
theorem dJ2_putCharsAt_cd4e5_30 : decode cJ2_putCharsAt_cd4e5 30 = .ok (.aload_n 0, 1) := by decide +kernel
theorem dJ2_putCharsAt_cd4e5_31 : decode cJ2_putCharsAt_cd4e5 31 = .ok (.iload_n 1, 1) := by decide +kernel
theorem dJ2_putCharsAt_cd4e5_32 : decode cJ2_putCharsAt_cd4e5 32 = .ok (.iinc 1 1, 3) := by decide +kernel
theorem dJ2_putCharsAt_cd4e5_35 : decode cJ2_putCharsAt_cd4e5 35 = .ok (.iload 4, 2) := by decide +kernel
theorem dJ2_putCharsAt_cd4e5_37 : decode cJ2_putCharsAt_cd4e5 37 = .ok (.invokestatic 111, 3) := by decide +kernel
theorem dJ2_putCharsAt_cd4e5_40 : decode cJ2_putCharsAt_cd4e5 40 = .ok (.aload_n 0, 1) := by decide +kernel
theorem dJ2_putCharsAt_cd4e5_41 : decode cJ2_putCharsAt_cd4e5 41 = .ok (.iload_n 1, 1) := by decide +kernel
theorem dJ2_putCharsAt_cd4e5_42 : decode cJ2_putCharsAt_cd4e5 42 = .ok (.iinc 1 1, 3) := by decide +kernel
theorem dJ2_putCharsAt_cd4e5_45 : decode cJ2_putCharsAt_cd4e5 45 = .ok (.iload 5, 2) := by decide +kernel
theorem dJ2_putCharsAt_cd4e5_47 : decode cJ2_putCharsAt_cd4e5 47 = .ok (.invokestatic 111, 3) := by decide +kernel
theorem dJ2_putCharsAt_cd4e5_50 : decode cJ2_putCharsAt_cd4e5 50 = .ok (.getstatic 44, 3) := by decide +kernel
theorem dJ2_putCharsAt_cd4e5_53 : decode cJ2_putCharsAt_cd4e5 53 = .ok (.ifCond .ne 17, 3) := by decide +kernel
theorem dJ2_putCharsAt_cd4e5_56 : decode cJ2_putCharsAt_cd4e5 56 = .ok (.iload_n 1, 1) := by decide +kernel
theorem dJ2_putCharsAt_cd4e5_57 : decode cJ2_putCharsAt_cd4e5 57 = .ok (.iload 6, 2) := by decide +kernel
theorem dJ2_putCharsAt_cd4e5_59 : decode cJ2_putCharsAt_cd4e5 59 = .ok (.if_icmp .eq 11, 3) := by decide +kernel
theorem dJ2_putCharsAt_cd4e5_62 : decode cJ2_putCharsAt_cd4e5 62 = .ok (.new 52, 3) := by decide +kernel
theorem dJ2_putCharsAt_cd4e5_65 : decode cJ2_putCharsAt_cd4e5 65 = .ok (.dup, 1) := by decide +kernel
theorem dJ2_putCharsAt_cd4e5_66 : decode cJ2_putCharsAt_cd4e5 66 = .ok (.invokespecial 66, 3) := by decide +kernel
theorem dJ2_putCharsAt_cd4e5_69 : decode cJ2_putCharsAt_cd4e5 69 = .ok (.athrow, 1) := by decide +kernel
theorem dJ2_putCharsAt_cd4e5_70 : decode cJ2_putCharsAt_cd4e5 70 = .ok (.iload 6, 2) := by decide +kernel
theorem dJ2_putCharsAt_cd4e5_72 : decode cJ2_putCharsAt_cd4e5 72 = .ok (.ireturn, 1) := by decide +kernel
set_option maxRecDepth 20000 in
theorem ggJ2_inflate_0e8fd_J2_checkBoundsOffCount_d044e : GoodIn wsJ2_inflate_0e8fd wsJ2_checkBoundsOffCount_d044e := goodIn_r _ [4, 5, 6, 3, 7, 8, 9, 10, 11, 12, 13, 14, 15, 16] (by decide +kernel) (by decide +kernel)
set_option maxRecDepth 20000 in
theorem gJ2_inflate_0e8fd_J2_checkBoundsOffCount_d044e : GoodIn wsJ2_inflate_0e8fd (va_wsS RJ2 173 yJ2_checkBoundsOffCount_d044e wsJ2_checkBoundsOffCount_d044e) := goodIn_app (goodIn_of _ (by decide +kernel)) ggJ2_inflate_0e8fd_J2_checkBoundsOffCount_d044e
set_option maxRecDepth 20000 in
theorem ggJ2_inflate_0e8fd_J2_putChar_b72d1 : GoodIn wsJ2_inflate_0e8fd wsJ2_putChar_b72d1 := goodIn_r _ [19, 20, 21, 22, 5, 6, 3, 7] (by decide +kernel) (by decide +kernel)
set_option maxRecDepth 20000 in
theorem gJ2_inflate_0e8fd_J2_putChar_b72d1 : GoodIn wsJ2_inflate_0e8fd (va_wsS RJ2 111 yJ2_putChar_b72d1 wsJ2_putChar_b72d1) := goodIn_app (goodIn_of _ (by decide +kernel)) ggJ2_inflate_0e8fd_J2_putChar_b72d1
theorem dJ2_inflate_0e8fd_0 : decode cJ2_inflate_0e8fd 0 = .ok (.iload_n 3, 1) := by decide +kernel
theorem dJ2_inflate_0e8fd_1 : decode cJ2_inflate_0e8fd 1 = .ok (.iload 4, 2) := by decide +kernel
theorem dJ2_inflate_0e8fd_3 : decode cJ2_inflate_0e8fd 3 = .ok (.aload_n 2, 1) := by decide +kernel
theorem dJ2_inflate_0e8fd_4 : decode cJ2_inflate_0e8fd 4 = .ok (.invokestatic 173, 3) := by decide +kernel
theorem dJ2_inflate_0e8fd_7 : decode cJ2_inflate_0e8fd 7 = .ok (.iconst 0, 1) := by decide +kernel
theorem dJ2_inflate_0e8fd_8 : decode cJ2_inflate_0e8fd 8 = .ok (.istore 5, 2) := by decide +kernel
theorem dJ2_inflate_0e8fd_10 : decode cJ2_inflate_0e8fd 10 = .ok (.iload 5, 2) := by decide +kernel
theorem dJ2_inflate_0e8fd_12 : decode cJ2_inflate_0e8fd 12 = .ok (.iload 4, 2) := by decide +kernel
theorem dJ2_inflate_0e8fd_14 : decode cJ2_inflate_0e8fd 14 = .ok (.if_icmp .ge 27, 3) := by decide +kernel
theorem dJ2_inflate_0e8fd_17 : decode cJ2_inflate_0e8fd 17 = .ok (.aload_n 2, 1) := by decide +kernel
theorem dJ2_inflate_0e8fd_18 : decode cJ2_inflate_0e8fd 18 = .ok (.iload_n 3, 1) := by decide +kernel
theorem dJ2_inflate_0e8fd_19 : decode cJ2_inflate_0e8fd 19 = .ok (.iinc 3 1, 3) := by decide +kernel
theorem dJ2_inflate_0e8fd_22 : decode cJ2_inflate_0e8fd 22 = .ok (.aload_n 0, 1) := by decide +kernel
theorem dJ2_inflate_0e8fd_23 : decode cJ2_inflate_0e8fd 23 = .ok (.iload_n 1, 1) := by decide +kernel
theorem dJ2_inflate_0e8fd_24 : decode cJ2_inflate_0e8fd 24 = .ok (.iinc 1 1, 3) := by decide +kernel
theorem dJ2_inflate_0e8fd_27 : decode cJ2_inflate_0e8fd 27 = .ok (.baload, 1) := by decide +kernel
theorem dJ2_inflate_0e8fd_28 : decode cJ2_inflate_0e8fd 28 = .ok (.sipush 255, 3) := by decide +kernel
theorem dJ2_inflate_0e8fd_31 : decode cJ2_inflate_0e8fd 31 = .ok (.iand, 1) := by decide +kernel
theorem dJ2_inflate_0e8fd_32 : decode cJ2_inflate_0e8fd 32 = .ok (.invokestatic 111, 3) := by decide +kernel
theorem dJ2_inflate_0e8fd_35 : decode cJ2_inflate_0e8fd 35 = .ok (.iinc 5 1, 3) := by decide +kernel
theorem dJ2_inflate_0e8fd_38 : decode cJ2_inflate_0e8fd 38 = .ok (.goto (-28), 3) := by decide +kernel
theorem dJ2_inflate_0e8fd_41 : decode cJ2_inflate_0e8fd 41 = .ok (.return_, 1) := by decide +kernel
set_option maxRecDepth 20000 in
theorem ggJ2_getChars_ba4f3_J2_putChar_b72d1 : GoodIn wsJ2_getChars_ba4f3 wsJ2_putChar_b72d1 := goodIn_r _ [6, 7, 8, 9, 10, 11, 5, 12] (by decide +kernel) (by decide +kernel)
set_option maxRecDepth 20000 in
theorem gJ2_getChars_ba4f3_J2_putChar_b72d1 : GoodIn wsJ2_getChars_ba4f3 (va_wsS RJ2 111 yJ2_putChar_b72d1 wsJ2_putChar_b72d1) := goodIn_app (goodIn_of _ (by decide +kernel)) ggJ2_getChars_ba4f3_J2_putChar_b72d1
theorem dJ2_getChars_ba4f3_0 : decode cJ2_getChars_ba4f3 0 = .ok (.iload_n 1, 1) := by decide +kernel
theorem dJ2_getChars_ba4f3_1 : decode cJ2_getChars_ba4f3 1 = .ok (.istore 5, 2) := by decide +kernel
theorem dJ2_getChars_ba4f3_3 : decode cJ2_getChars_ba4f3 3 = .ok (.iload_n 0, 1) := by decide +kernel
theorem dJ2_getChars_ba4f3_4 : decode cJ2_getChars_ba4f3 4 = .ok (.ifCond .ge 7, 3) := by decide +kernel
theorem dJ2_getChars_ba4f3_7 : decode cJ2_getChars_ba4f3 7 = .ok (.iconst 1, 1) := by decide +kernel
theorem dJ2_getChars_ba4f3_8 : decode cJ2_getChars_ba4f3 8 = .ok (.goto 4, 3) := by decide +kernel
theorem dJ2_getChars_ba4f3_11 : decode cJ2_getChars_ba4f3 11 = .ok (.iconst 0, 1) := by decide +kernel
theorem dJ2_getChars_ba4f3_12 : decode cJ2_getChars_ba4f3 12 = .ok (.istore 6, 2) := by decide +kernel
theorem dJ2_getChars_ba4f3_14 : decode cJ2_getChars_ba4f3 14 = .ok (.iload 6, 2) := by decide +kernel
theorem dJ2_getChars_ba4f3_16 : decode cJ2_getChars_ba4f3 16 = .ok (.ifCond .ne 6, 3) := by decide +kernel
theorem dJ2_getChars_ba4f3_19 : decode cJ2_getChars_ba4f3 19 = .ok (.iload_n 0, 1) := by decide +kernel
theorem dJ2_getChars_ba4f3_20 : decode cJ2_getChars_ba4f3 20 = .ok (.ineg, 1) := by decide +kernel
theorem dJ2_getChars_ba4f3_21 : decode cJ2_getChars_ba4f3 21 = .ok (.istore_n 0, 1) := by decide +kernel
theorem dJ2_getChars_ba4f3_22 : decode cJ2_getChars_ba4f3 22 = .ok (.iload_n 0, 1) := by decide +kernel
theorem dJ2_getChars_ba4f3_23 : decode cJ2_getChars_ba4f3 23 = .ok (.bipush (-100), 2) := by decide +kernel
theorem dJ2_getChars_ba4f3_25 : decode cJ2_getChars_ba4f3 25 = .ok (.if_icmp .gt 51, 3) := by decide +kernel
theorem dJ2_getChars_ba4f3_28 : decode cJ2_getChars_ba4f3 28 = .ok (.iload_n 0, 1) := by decide +kernel
theorem dJ2_getChars_ba4f3_29 : decode cJ2_getChars_ba4f3 29 = .ok (.bipush 100, 2) := by decide +kernel
theorem dJ2_getChars_ba4f3_31 : decode cJ2_getChars_ba4f3 31 = .ok (.idiv, 1) := by decide +kernel
theorem dJ2_getChars_ba4f3_32 : decode cJ2_getChars_ba4f3 32 = .ok (.istore_n 3, 1) := by decide +kernel
theorem dJ2_getChars_ba4f3_33 : decode cJ2_getChars_ba4f3 33 = .ok (.iload_n 3, 1) := by decide +kernel
theorem dJ2_getChars_ba4f3_34 : decode cJ2_getChars_ba4f3 34 = .ok (.bipush 100, 2) := by decide +kernel
theorem dJ2_getChars_ba4f3_36 : decode cJ2_getChars_ba4f3 36 = .ok (.imul, 1) := by decide +kernel
theorem dJ2_getChars_ba4f3_37 : decode cJ2_getChars_ba4f3 37 = .ok (.iload_n 0, 1) := by decide +kernel
theorem dJ2_getChars_ba4f3_38 : decode cJ2_getChars_ba4f3 38 = .ok (.isub, 1) := by decide +kernel
theorem dJ2_getChars_ba4f3_39 : decode cJ2_getChars_ba4f3 39 = .ok (.istore 4, 2) := by decide +kernel
theorem dJ2_getChars_ba4f3_41 : decode cJ2_getChars_ba4f3 41 = .ok (.iload_n 3, 1) := by decide +kernel
theorem dJ2_getChars_ba4f3_42 : decode cJ2_getChars_ba4f3 42 = .ok (.istore_n 0, 1) := by decide +kernel
theorem dJ2_getChars_ba4f3_43 : decode cJ2_getChars_ba4f3 43 = .ok (.aload_n 2, 1) := by decide +kernel
theorem dJ2_getChars_ba4f3_44 : decode cJ2_getChars_ba4f3 44 = .ok (.iinc 5 (-1), 3) := by decide +kernel
theorem dJ2_getChars_ba4f3_47 : decode cJ2_getChars_ba4f3 47 = .ok (.iload 5, 2) := by decide +kernel
theorem dJ2_getChars_ba4f3_49 : decode cJ2_getChars_ba4f3 49 = .ok (.getstatic 403, 3) := by decide +kernel
theorem dJ2_getChars_ba4f3_52 : decode cJ2_getChars_ba4f3 52 = .ok (.iload 4, 2) := by decide +kernel
theorem dJ2_getChars_ba4f3_54 : decode cJ2_getChars_ba4f3 54 = .ok (.baload, 1) := by decide +kernel
theorem dJ2_getChars_ba4f3_55 : decode cJ2_getChars_ba4f3 55 = .ok (.invokestatic 111, 3) := by decide +kernel
theorem dJ2_getChars_ba4f3_58 : decode cJ2_getChars_ba4f3 58 = .ok (.aload_n 2, 1) := by decide +kernel
theorem dJ2_getChars_ba4f3_59 : decode cJ2_getChars_ba4f3 59 = .ok (.iinc 5 (-1), 3) := by decide +kernel
theorem dJ2_getChars_ba4f3_62 : decode cJ2_getChars_ba4f3 62 = .ok (.iload 5, 2) := by decide +kernel
theorem dJ2_getChars_ba4f3_64 : decode cJ2_getChars_ba4f3 64 = .ok (.getstatic 407, 3) := by decide +kernel
theorem dJ2_getChars_ba4f3_67 : decode cJ2_getChars_ba4f3 67 = .ok (.iload 4, 2) := by decide +kernel
theorem dJ2_getChars_ba4f3_69 : decode cJ2_getChars_ba4f3 69 = .ok (.baload, 1) := by decide +kernel
theorem dJ2_getChars_ba4f3_70 : decode cJ2_getChars_ba4f3 70 = .ok (.invokestatic 111, 3) := by decide +kernel
theorem dJ2_getChars_ba4f3_73 : decode cJ2_getChars_ba4f3 73 = .ok (.goto (-51), 3) := by decide +kernel
theorem dJ2_getChars_ba4f3_76 : decode cJ2_getChars_ba4f3 76 = .ok (.aload_n 2, 1) := by decide +kernel
theorem dJ2_getChars_ba4f3_77 : decode cJ2_getChars_ba4f3 77 = .ok (.iinc 5 (-1), 3) := by decide +kernel
theorem dJ2_getChars_ba4f3_80 : decode cJ2_getChars_ba4f3 80 = .ok (.iload 5, 2) := by decide +kernel
theorem dJ2_getChars_ba4f3_82 : decode cJ2_getChars_ba4f3 82 = .ok (.getstatic 403, 3) := by decide +kernel
theorem dJ2_getChars_ba4f3_85 : decode cJ2_getChars_ba4f3 85 = .ok (.iload_n 0, 1) := by decide +kernel
theorem dJ2_getChars_ba4f3_86 : decode cJ2_getChars_ba4f3 86 = .ok (.ineg, 1) := by decide +kernel
theorem dJ2_getChars_ba4f3_87 : decode cJ2_getChars_ba4f3 87 = .ok (.baload, 1) := by decide +kernel
theorem dJ2_getChars_ba4f3_88 : decode cJ2_getChars_ba4f3 88 = .ok (.invokestatic 111, 3) := by decide +kernel
theorem dJ2_getChars_ba4f3_91 : decode cJ2_getChars_ba4f3 91 = .ok (.iload_n 0, 1) := by decide +kernel
theorem dJ2_getChars_ba4f3_92 : decode cJ2_getChars_ba4f3 92 = .ok (.bipush (-9), 2) := by decide +kernel
theorem dJ2_getChars_ba4f3_94 : decode cJ2_getChars_ba4f3 94 = .ok (.if_icmp .ge 18, 3) := by decide +kernel
theorem dJ2_getChars_ba4f3_97 : decode cJ2_getChars_ba4f3 97 = .ok (.aload_n 2, 1) := by decide +kernel
theorem dJ2_getChars_ba4f3_98 : decode cJ2_getChars_ba4f3 98 = .ok (.iinc 5 (-1), 3) := by decide +kernel
theorem dJ2_getChars_ba4f3_101 : decode cJ2_getChars_ba4f3 101 = .ok (.iload 5, 2) := by decide +kernel
theorem dJ2_getChars_ba4f3_103 : decode cJ2_getChars_ba4f3 103 = .ok (.getstatic 407, 3) := by decide +kernel
theorem dJ2_getChars_ba4f3_106 : decode cJ2_getChars_ba4f3 106 = .ok (.iload_n 0, 1) := by decide +kernel
theorem dJ2_getChars_ba4f3_107 : decode cJ2_getChars_ba4f3 107 = .ok (.ineg, 1) := by decide +kernel
theorem dJ2_getChars_ba4f3_108 : decode cJ2_getChars_ba4f3 108 = .ok (.baload, 1) := by decide +kernel
theorem dJ2_getChars_ba4f3_109 : decode cJ2_getChars_ba4f3 109 = .ok (.invokestatic 111, 3) := by decide +kernel
theorem dJ2_getChars_ba4f3_112 : decode cJ2_getChars_ba4f3 112 = .ok (.iload 6, 2) := by decide +kernel
theorem dJ2_getChars_ba4f3_114 : decode cJ2_getChars_ba4f3 114 = .ok (.ifCond .eq 14, 3) := by decide +kernel
theorem dJ2_getChars_ba4f3_117 : decode cJ2_getChars_ba4f3 117 = .ok (.aload_n 2, 1) := by decide +kernel
theorem dJ2_getChars_ba4f3_118 : decode cJ2_getChars_ba4f3 118 = .ok (.iinc 5 (-1), 3) := by decide +kernel
theorem dJ2_getChars_ba4f3_121 : decode cJ2_getChars_ba4f3 121 = .ok (.iload 5, 2) := by decide +kernel
theorem dJ2_getChars_ba4f3_123 : decode cJ2_getChars_ba4f3 123 = .ok (.bipush 45, 2) := by decide +kernel
theorem dJ2_getChars_ba4f3_125 : decode cJ2_getChars_ba4f3 125 = .ok (.invokestatic 111, 3) := by decide +kernel
theorem dJ2_getChars_ba4f3_128 : decode cJ2_getChars_ba4f3 128 = .ok (.iload 5, 2) := by decide +kernel
theorem dJ2_getChars_ba4f3_130 : decode cJ2_getChars_ba4f3 130 = .ok (.ireturn, 1) := by decide +kernel
set_option maxRecDepth 20000 in
theorem ggJ2_checkBoundsBeginEnd_d044e_J2_length_9d52b : GoodIn wsJ2_checkBoundsBeginEnd_d044e wsJ2_length_9d52b := goodIn_r _ [4] (by decide +kernel) (by decide +kernel)
set_option maxRecDepth 20000 in
theorem gJ2_checkBoundsBeginEnd_d044e_J2_length_9d52b : GoodIn wsJ2_checkBoundsBeginEnd_d044e (va_wsS RJ2 48 yJ2_length_9d52b wsJ2_length_9d52b) := goodIn_app (goodIn_of _ (by decide +kernel)) ggJ2_checkBoundsBeginEnd_d044e_J2_length_9d52b
set_option maxRecDepth 20000 in
theorem ggJ2_checkBoundsBeginEnd_d044e_J0_checkBoundsBeginEnd_23922 : GoodIn wsJ2_checkBoundsBeginEnd_d044e wsJ0_checkBoundsBeginEnd_23922 := goodIn_r _ [8, 9, 10, 11, 12, 13] (by decide +kernel) (by decide +kernel)
set_option maxRecDepth 20000 in
theorem gJ2_checkBoundsBeginEnd_d044e_J0_checkBoundsBeginEnd_23922 : GoodIn wsJ2_checkBoundsBeginEnd_d044e (va_wsS RJ2 241 yJ0_checkBoundsBeginEnd_23922 wsJ0_checkBoundsBeginEnd_23922) := goodIn_app (goodIn_of _ (by decide +kernel)) ggJ2_checkBoundsBeginEnd_d044e_J0_checkBoundsBeginEnd_23922
theorem dJ2_checkBoundsBeginEnd_d044e_0 : decode cJ2_checkBoundsBeginEnd_d044e 0 = .ok (.iload_n 0, 1) := by decide +kernel
theorem dJ2_checkBoundsBeginEnd_d044e_1 : decode cJ2_checkBoundsBeginEnd_d044e 1 = .ok (.iload_n 1, 1) := by decide +kernel
theorem dJ2_checkBoundsBeginEnd_d044e_2 : decode cJ2_checkBoundsBeginEnd_d044e 2 = .ok (.aload_n 2, 1) := by decide +kernel
theorem dJ2_checkBoundsBeginEnd_d044e_3 : decode cJ2_checkBoundsBeginEnd_d044e 3 = .ok (.invokestatic 48, 3) := by decide +kernel
theorem dJ2_checkBoundsBeginEnd_d044e_6 : decode cJ2_checkBoundsBeginEnd_d044e 6 = .ok (.invokestatic 241, 3) := by decide +kernel
theorem dJ2_checkBoundsBeginEnd_d044e_9 : decode cJ2_checkBoundsBeginEnd_d044e 9 = .ok (.return_, 1) := by decide +kernel
set_option maxRecDepth 20000 in
theorem ggJ2_checkBoundsOffCount_d044e_J2_length_9d52b : GoodIn wsJ2_checkBoundsOffCount_d044e wsJ2_length_9d52b := goodIn_r _ [4] (by decide +kernel) (by decide +kernel)
set_option maxRecDepth 20000 in
theorem gJ2_checkBoundsOffCount_d044e_J2_length_9d52b : GoodIn wsJ2_checkBoundsOffCount_d044e (va_wsS RJ2 48 yJ2_length_9d52b wsJ2_length_9d52b) := goodIn_app (goodIn_of _ (by decide +kernel)) ggJ2_checkBoundsOffCount_d044e_J2_length_9d52b
set_option maxRecDepth 20000 in
theorem ggJ2_checkBoundsOffCount_d044e_J0_checkBoundsOffCount_cabcc : GoodIn wsJ2_checkBoundsOffCount_d044e wsJ0_checkBoundsOffCount_cabcc := goodIn_r _ [8, 9, 10, 11, 12, 13] (by decide +kernel) (by decide +kernel)
set_option maxRecDepth 20000 in
theorem gJ2_checkBoundsOffCount_d044e_J0_checkBoundsOffCount_cabcc : GoodIn wsJ2_checkBoundsOffCount_d044e (va_wsS RJ2 419 yJ0_checkBoundsOffCount_cabcc wsJ0_checkBoundsOffCount_cabcc) := goodIn_app (goodIn_of _ (by decide +kernel)) ggJ2_checkBoundsOffCount_d044e_J0_checkBoundsOffCount_cabcc
theorem dJ2_checkBoundsOffCount_d044e_0 : decode cJ2_checkBoundsOffCount_d044e 0 = .ok (.iload_n 0, 1) := by decide +kernel
theorem dJ2_checkBoundsOffCount_d044e_1 : decode cJ2_checkBoundsOffCount_d044e 1 = .ok (.iload_n 1, 1) := by decide +kernel
theorem dJ2_checkBoundsOffCount_d044e_2 : decode cJ2_checkBoundsOffCount_d044e 2 = .ok (.aload_n 2, 1) := by decide +kernel
theorem dJ2_checkBoundsOffCount_d044e_3 : decode cJ2_checkBoundsOffCount_d044e 3 = .ok (.invokestatic 48, 3) := by decide +kernel
theorem dJ2_checkBoundsOffCount_d044e_6 : decode cJ2_checkBoundsOffCount_d044e 6 = .ok (.invokestatic 419, 3) := by decide +kernel
theorem dJ2_checkBoundsOffCount_d044e_9 : decode cJ2_checkBoundsOffCount_d044e 9 = .ok (.pop, 1) := by decide +kernel
theorem dJ2_checkBoundsOffCount_d044e_10 : decode cJ2_checkBoundsOffCount_d044e 10 = .ok (.return_, 1) := by decide +kernel
theorem dJ7_rangeCheck_23922_0 : decode cJ7_rangeCheck_23922 0 = .ok (.iload_n 1, 1) := by decide +kernel
theorem dJ7_rangeCheck_23922_1 : decode cJ7_rangeCheck_23922 1 = .ok (.iload_n 2, 1) := by decide +kernel
theorem dJ7_rangeCheck_23922_2 : decode cJ7_rangeCheck_23922 2 = .ok (.if_icmp .le 44, 3) := by decide +kernel
theorem dJ7_rangeCheck_23922_5 : decode cJ7_rangeCheck_23922 5 = .ok (.new 43, 3) := by decide +kernel
theorem dJ7_rangeCheck_23922_8 : decode cJ7_rangeCheck_23922 8 = .ok (.dup, 1) := by decide +kernel
theorem dJ7_rangeCheck_23922_9 : decode cJ7_rangeCheck_23922 9 = .ok (.new 45, 3) := by decide +kernel
theorem dJ7_rangeCheck_23922_12 : decode cJ7_rangeCheck_23922 12 = .ok (.dup, 1) := by decide +kernel
theorem dJ7_rangeCheck_23922_13 : decode cJ7_rangeCheck_23922 13 = .ok (.invokespecial 47, 3) := by decide +kernel
theorem dJ7_rangeCheck_23922_16 : decode cJ7_rangeCheck_23922 16 = .ok (.ldc 48, 2) := by decide +kernel
theorem dJ7_rangeCheck_23922_18 : decode cJ7_rangeCheck_23922 18 = .ok (.invokevirtual 50, 3) := by decide +kernel
theorem dJ7_rangeCheck_23922_21 : decode cJ7_rangeCheck_23922 21 = .ok (.iload_n 1, 1) := by decide +kernel
theorem dJ7_rangeCheck_23922_22 : decode cJ7_rangeCheck_23922 22 = .ok (.invokevirtual 54, 3) := by decide +kernel
theorem dJ7_rangeCheck_23922_25 : decode cJ7_rangeCheck_23922 25 = .ok (.ldc 57, 2) := by decide +kernel
theorem dJ7_rangeCheck_23922_27 : decode cJ7_rangeCheck_23922 27 = .ok (.invokevirtual 50, 3) := by decide +kernel
theorem dJ7_rangeCheck_23922_30 : decode cJ7_rangeCheck_23922 30 = .ok (.iload_n 2, 1) := by decide +kernel
theorem dJ7_rangeCheck_23922_31 : decode cJ7_rangeCheck_23922 31 = .ok (.invokevirtual 54, 3) := by decide +kernel
theorem dJ7_rangeCheck_23922_34 : decode cJ7_rangeCheck_23922 34 = .ok (.ldc 59, 2) := by decide +kernel
theorem dJ7_rangeCheck_23922_36 : decode cJ7_rangeCheck_23922 36 = .ok (.invokevirtual 50, 3) := by decide +kernel
theorem dJ7_rangeCheck_23922_39 : decode cJ7_rangeCheck_23922 39 = .ok (.invokevirtual 61, 3) := by decide +kernel
theorem dJ7_rangeCheck_23922_42 : decode cJ7_rangeCheck_23922 42 = .ok (.invokespecial 65, 3) := by decide +kernel
theorem dJ7_rangeCheck_23922_45 : decode cJ7_rangeCheck_23922 45 = .ok (.athrow, 1) := by decide +kernel
theorem dJ7_rangeCheck_23922_46 : decode cJ7_rangeCheck_23922 46 = .ok (.iload_n 1, 1) := by decide +kernel
theorem dJ7_rangeCheck_23922_47 : decode cJ7_rangeCheck_23922 47 = .ok (.ifCond .ge 12, 3) := by decide +kernel
theorem dJ7_rangeCheck_23922_50 : decode cJ7_rangeCheck_23922 50 = .ok (.new 68, 3) := by decide +kernel
theorem dJ7_rangeCheck_23922_53 : decode cJ7_rangeCheck_23922 53 = .ok (.dup, 1) := by decide +kernel
theorem dJ7_rangeCheck_23922_54 : decode cJ7_rangeCheck_23922 54 = .ok (.iload_n 1, 1) := by decide +kernel
theorem dJ7_rangeCheck_23922_55 : decode cJ7_rangeCheck_23922 55 = .ok (.invokespecial 70, 3) := by decide +kernel
theorem dJ7_rangeCheck_23922_58 : decode cJ7_rangeCheck_23922 58 = .ok (.athrow, 1) := by decide +kernel
theorem dJ7_rangeCheck_23922_59 : decode cJ7_rangeCheck_23922 59 = .ok (.iload_n 2, 1) := by decide +kernel
theorem dJ7_rangeCheck_23922_60 : decode cJ7_rangeCheck_23922 60 = .ok (.iload_n 0, 1) := by decide +kernel
theorem dJ7_rangeCheck_23922_61 : decode cJ7_rangeCheck_23922 61 = .ok (.if_icmp .le 12, 3) := by decide +kernel
theorem dJ7_rangeCheck_23922_64 : decode cJ7_rangeCheck_23922 64 = .ok (.new 68, 3) := by decide +kernel
theorem dJ7_rangeCheck_23922_67 : decode cJ7_rangeCheck_23922 67 = .ok (.dup, 1) := by decide +kernel
theorem dJ7_rangeCheck_23922_68 : decode cJ7_rangeCheck_23922 68 = .ok (.iload_n 2, 1) := by decide +kernel
theorem dJ7_rangeCheck_23922_69 : decode cJ7_rangeCheck_23922 69 = .ok (.invokespecial 70, 3) := by decide +kernel
theorem dJ7_rangeCheck_23922_72 : decode cJ7_rangeCheck_23922 72 = .ok (.athrow, 1) := by decide +kernel
theorem dJ7_rangeCheck_23922_73 : decode cJ7_rangeCheck_23922 73 = .ok (.return_, 1) := by decide +kernel
theorem dJ7_fill_53178_0 : decode cJ7_fill_53178 0 = .ok (.iconst 0, 1) := by decide +kernel
theorem dJ7_fill_53178_1 : decode cJ7_fill_53178 1 = .ok (.istore_n 2, 1) := by decide +kernel
theorem dJ7_fill_53178_2 : decode cJ7_fill_53178 2 = .ok (.aload_n 0, 1) := by decide +kernel
theorem dJ7_fill_53178_3 : decode cJ7_fill_53178 3 = .ok (.arraylength, 1) := by decide +kernel
theorem dJ7_fill_53178_4 : decode cJ7_fill_53178 4 = .ok (.istore_n 3, 1) := by decide +kernel
theorem dJ7_fill_53178_5 : decode cJ7_fill_53178 5 = .ok (.iload_n 2, 1) := by decide +kernel
theorem dJ7_fill_53178_6 : decode cJ7_fill_53178 6 = .ok (.iload_n 3, 1) := by decide +kernel
theorem dJ7_fill_53178_7 : decode cJ7_fill_53178 7 = .ok (.if_icmp .ge 13, 3) := by decide +kernel
theorem dJ7_fill_53178_10 : decode cJ7_fill_53178 10 = .ok (.aload_n 0, 1) := by decide +kernel
theorem dJ7_fill_53178_11 : decode cJ7_fill_53178 11 = .ok (.iload_n 2, 1) := by decide +kernel
theorem dJ7_fill_53178_12 : decode cJ7_fill_53178 12 = .ok (.iload_n 1, 1) := by decide +kernel
theorem dJ7_fill_53178_13 : decode cJ7_fill_53178 13 = .ok (.iastore, 1) := by decide +kernel
theorem dJ7_fill_53178_14 : decode cJ7_fill_53178 14 = .ok (.iinc 2 1, 3) := by decide +kernel
theorem dJ7_fill_53178_17 : decode cJ7_fill_53178 17 = .ok (.goto (-12), 3) := by decide +kernel
theorem dJ7_fill_53178_20 : decode cJ7_fill_53178 20 = .ok (.return_, 1) := by decide +kernel
set_option maxRecDepth 20000 in
theorem ggJ7_fill_fda19_J7_rangeCheck_23922 : GoodIn wsJ7_fill_fda19 wsJ7_rangeCheck_23922 := goodIn_r _ [4, 5, 6, 7, 8, 9, 10, 11] (by decide +kernel) (by decide +kernel)
set_option maxRecDepth 20000 in
theorem gJ7_fill_fda19_J7_rangeCheck_23922 : GoodIn wsJ7_fill_fda19 (va_wsS RJ7 13 yJ7_rangeCheck_23922 wsJ7_rangeCheck_23922) := goodIn_app (goodIn_of _ (by decide +kernel)) ggJ7_fill_fda19_J7_rangeCheck_23922
theorem dJ7_fill_fda19_0 : decode cJ7_fill_fda19 0 = .ok (.aload_n 0, 1) := by decide +kernel
theorem dJ7_fill_fda19_1 : decode cJ7_fill_fda19 1 = .ok (.arraylength, 1) := by decide +kernel
theorem dJ7_fill_fda19_2 : decode cJ7_fill_fda19 2 = .ok (.iload_n 1, 1) := by decide +kernel
theorem dJ7_fill_fda19_3 : decode cJ7_fill_fda19 3 = .ok (.iload_n 2, 1) := by decide +kernel
theorem dJ7_fill_fda19_4 : decode cJ7_fill_fda19 4 = .ok (.invokestatic 13, 3) := by decide +kernel
theorem dJ7_fill_fda19_7 : decode cJ7_fill_fda19 7 = .ok (.iload_n 1, 1) := by decide +kernel
theorem dJ7_fill_fda19_8 : decode cJ7_fill_fda19 8 = .ok (.istore 4, 2) := by decide +kernel
theorem dJ7_fill_fda19_10 : decode cJ7_fill_fda19 10 = .ok (.iload 4, 2) := by decide +kernel
theorem dJ7_fill_fda19_12 : decode cJ7_fill_fda19 12 = .ok (.iload_n 2, 1) := by decide +kernel
theorem dJ7_fill_fda19_13 : decode cJ7_fill_fda19 13 = .ok (.if_icmp .ge 14, 3) := by decide +kernel
theorem dJ7_fill_fda19_16 : decode cJ7_fill_fda19 16 = .ok (.aload_n 0, 1) := by decide +kernel
theorem dJ7_fill_fda19_17 : decode cJ7_fill_fda19 17 = .ok (.iload 4, 2) := by decide +kernel
theorem dJ7_fill_fda19_19 : decode cJ7_fill_fda19 19 = .ok (.iload_n 3, 1) := by decide +kernel
theorem dJ7_fill_fda19_20 : decode cJ7_fill_fda19 20 = .ok (.iastore, 1) := by decide +kernel
theorem dJ7_fill_fda19_21 : decode cJ7_fill_fda19 21 = .ok (.iinc 4 1, 3) := by decide +kernel
theorem dJ7_fill_fda19_24 : decode cJ7_fill_fda19 24 = .ok (.goto (-14), 3) := by decide +kernel
theorem dJ7_fill_fda19_27 : decode cJ7_fill_fda19 27 = .ok (.return_, 1) := by decide +kernel
theorem dJ7_copyOf_9075b_0 : decode cJ7_copyOf_9075b 0 = .ok (.iload_n 1, 1) := by decide +kernel
theorem dJ7_copyOf_9075b_1 : decode cJ7_copyOf_9075b 1 = .ok (.aload_n 0, 1) := by decide +kernel
theorem dJ7_copyOf_9075b_2 : decode cJ7_copyOf_9075b 2 = .ok (.arraylength, 1) := by decide +kernel
theorem dJ7_copyOf_9075b_3 : decode cJ7_copyOf_9075b 3 = .ok (.if_icmp .ne 11, 3) := by decide +kernel
theorem dJ7_copyOf_9075b_6 : decode cJ7_copyOf_9075b 6 = .ok (.aload_n 0, 1) := by decide +kernel
theorem dJ7_copyOf_9075b_7 : decode cJ7_copyOf_9075b 7 = .ok (.invokevirtual 310, 3) := by decide +kernel
theorem dJ7_copyOf_9075b_10 : decode cJ7_copyOf_9075b 10 = .ok (.checkcast 311, 3) := by decide +kernel
theorem dJ7_copyOf_9075b_13 : decode cJ7_copyOf_9075b 13 = .ok (.areturn, 1) := by decide +kernel
theorem dJ7_copyOf_9075b_14 : decode cJ7_copyOf_9075b 14 = .ok (.iload_n 1, 1) := by decide +kernel
theorem dJ7_copyOf_9075b_15 : decode cJ7_copyOf_9075b 15 = .ok (.newarray .byte, 2) := by decide +kernel
theorem dJ7_copyOf_9075b_17 : decode cJ7_copyOf_9075b 17 = .ok (.astore_n 2, 1) := by decide +kernel
theorem dJ7_copyOf_9075b_18 : decode cJ7_copyOf_9075b 18 = .ok (.aload_n 0, 1) := by decide +kernel
theorem dJ7_copyOf_9075b_19 : decode cJ7_copyOf_9075b 19 = .ok (.iconst 0, 1) := by decide +kernel
theorem dJ7_copyOf_9075b_20 : decode cJ7_copyOf_9075b 20 = .ok (.aload_n 2, 1) := by decide +kernel
theorem dJ7_copyOf_9075b_21 : decode cJ7_copyOf_9075b 21 = .ok (.iconst 0, 1) := by decide +kernel
theorem dJ7_copyOf_9075b_22 : decode cJ7_copyOf_9075b 22 = .ok (.aload_n 0, 1) := by decide +kernel
theorem dJ7_copyOf_9075b_23 : decode cJ7_copyOf_9075b 23 = .ok (.arraylength, 1) := by decide +kernel
theorem dJ7_copyOf_9075b_24 : decode cJ7_copyOf_9075b 24 = .ok (.iload_n 1, 1) := by decide +kernel
theorem dJ7_copyOf_9075b_25 : decode cJ7_copyOf_9075b 25 = .ok (.invokestatic 304, 3) := by decide +kernel
theorem dJ7_copyOf_9075b_28 : decode cJ7_copyOf_9075b 28 = .ok (.invokestatic 150, 3) := by decide +kernel
theorem dJ7_copyOf_9075b_31 : decode cJ7_copyOf_9075b 31 = .ok (.aload_n 2, 1) := by decide +kernel
theorem dJ7_copyOf_9075b_32 : decode cJ7_copyOf_9075b 32 = .ok (.areturn, 1) := by decide +kernel
theorem dJ7_checkLength_df160_0 : decode cJ7_checkLength_df160 0 = .ok (.iload_n 1, 1) := by decide +kernel
theorem dJ7_checkLength_df160_1 : decode cJ7_checkLength_df160 1 = .ok (.iload_n 0, 1) := by decide +kernel
theorem dJ7_checkLength_df160_2 : decode cJ7_checkLength_df160 2 = .ok (.if_icmp .ge 35, 3) := by decide +kernel
theorem dJ7_checkLength_df160_5 : decode cJ7_checkLength_df160 5 = .ok (.new 43, 3) := by decide +kernel
theorem dJ7_checkLength_df160_8 : decode cJ7_checkLength_df160 8 = .ok (.dup, 1) := by decide +kernel
theorem dJ7_checkLength_df160_9 : decode cJ7_checkLength_df160 9 = .ok (.new 45, 3) := by decide +kernel
theorem dJ7_checkLength_df160_12 : decode cJ7_checkLength_df160 12 = .ok (.dup, 1) := by decide +kernel
theorem dJ7_checkLength_df160_13 : decode cJ7_checkLength_df160 13 = .ok (.invokespecial 47, 3) := by decide +kernel
theorem dJ7_checkLength_df160_16 : decode cJ7_checkLength_df160 16 = .ok (.iload_n 0, 1) := by decide +kernel
theorem dJ7_checkLength_df160_17 : decode cJ7_checkLength_df160 17 = .ok (.invokevirtual 54, 3) := by decide +kernel
theorem dJ7_checkLength_df160_20 : decode cJ7_checkLength_df160 20 = .ok (.ldc_w 337, 3) := by decide +kernel
theorem dJ7_checkLength_df160_23 : decode cJ7_checkLength_df160 23 = .ok (.invokevirtual 50, 3) := by decide +kernel
theorem dJ7_checkLength_df160_26 : decode cJ7_checkLength_df160 26 = .ok (.iload_n 1, 1) := by decide +kernel
theorem dJ7_checkLength_df160_27 : decode cJ7_checkLength_df160 27 = .ok (.invokevirtual 54, 3) := by decide +kernel
theorem dJ7_checkLength_df160_30 : decode cJ7_checkLength_df160 30 = .ok (.invokevirtual 61, 3) := by decide +kernel
theorem dJ7_checkLength_df160_33 : decode cJ7_checkLength_df160 33 = .ok (.invokespecial 65, 3) := by decide +kernel
theorem dJ7_checkLength_df160_36 : decode cJ7_checkLength_df160 36 = .ok (.athrow, 1) := by decide +kernel
theorem dJ7_checkLength_df160_37 : decode cJ7_checkLength_df160 37 = .ok (.return_, 1) := by decide +kernel
set_option maxRecDepth 20000 in
theorem ggJ7_copyOfRange_39247_J7_copyOfRangeByte_39247 : GoodIn wsJ7_copyOfRange_39247 wsJ7_copyOfRangeByte_39247 := goodIn_r _ [10, 11, 12, 13, 14, 15, 16, 17, 18, 19, 20, 21, 9, 22, 23, 24, 25, 26, 27, 28, 29] (by decide +kernel) (by decide +kernel)
set_option maxRecDepth 20000 in
theorem gJ7_copyOfRange_39247_J7_copyOfRangeByte_39247 : GoodIn wsJ7_copyOfRange_39247 (va_wsS RJ7 339 yJ7_copyOfRangeByte_39247 wsJ7_copyOfRangeByte_39247) := goodIn_app (goodIn_of _ (by decide +kernel)) ggJ7_copyOfRange_39247_J7_copyOfRangeByte_39247
theorem dJ7_copyOfRange_39247_0 : decode cJ7_copyOfRange_39247 0 = .ok (.iload_n 1, 1) := by decide +kernel
theorem dJ7_copyOfRange_39247_1 : decode cJ7_copyOfRange_39247 1 = .ok (.ifCond .ne 9, 3) := by decide +kernel
theorem dJ7_copyOfRange_39247_4 : decode cJ7_copyOfRange_39247 4 = .ok (.iload_n 2, 1) := by decide +kernel
theorem dJ7_copyOfRange_39247_5 : decode cJ7_copyOfRange_39247 5 = .ok (.aload_n 0, 1) := by decide +kernel
theorem dJ7_copyOfRange_39247_6 : decode cJ7_copyOfRange_39247 6 = .ok (.arraylength, 1) := by decide +kernel
theorem dJ7_copyOfRange_39247_7 : decode cJ7_copyOfRange_39247 7 = .ok (.if_icmp .eq 10, 3) := by decide +kernel
theorem dJ7_copyOfRange_39247_10 : decode cJ7_copyOfRange_39247 10 = .ok (.aload_n 0, 1) := by decide +kernel
theorem dJ7_copyOfRange_39247_11 : decode cJ7_copyOfRange_39247 11 = .ok (.iload_n 1, 1) := by decide +kernel
theorem dJ7_copyOfRange_39247_12 : decode cJ7_copyOfRange_39247 12 = .ok (.iload_n 2, 1) := by decide +kernel
theorem dJ7_copyOfRange_39247_13 : decode cJ7_copyOfRange_39247 13 = .ok (.invokestatic 339, 3) := by decide +kernel
theorem dJ7_copyOfRange_39247_16 : decode cJ7_copyOfRange_39247 16 = .ok (.areturn, 1) := by decide +kernel
theorem dJ7_copyOfRange_39247_17 : decode cJ7_copyOfRange_39247 17 = .ok (.aload_n 0, 1) := by decide +kernel
theorem dJ7_copyOfRange_39247_18 : decode cJ7_copyOfRange_39247 18 = .ok (.invokevirtual 310, 3) := by decide +kernel
theorem dJ7_copyOfRange_39247_21 : decode cJ7_copyOfRange_39247 21 = .ok (.checkcast 311, 3) := by decide +kernel
theorem dJ7_copyOfRange_39247_24 : decode cJ7_copyOfRange_39247 24 = .ok (.areturn, 1) := by decide +kernel
set_option maxRecDepth 20000 in
theorem ggJ7_copyOfRangeByte_39247_J7_checkLength_df160 : GoodIn wsJ7_copyOfRangeByte_39247 wsJ7_checkLength_df160 := goodIn_r _ [13, 14, 15, 16, 17, 18, 19, 20] (by decide +kernel) (by decide +kernel)
set_option maxRecDepth 20000 in
theorem gJ7_copyOfRangeByte_39247_J7_checkLength_df160 : GoodIn wsJ7_copyOfRangeByte_39247 (va_wsS RJ7 343 yJ7_checkLength_df160 wsJ7_checkLength_df160) := goodIn_app (goodIn_of _ (by decide +kernel)) ggJ7_copyOfRangeByte_39247_J7_checkLength_df160
theorem dJ7_copyOfRangeByte_39247_0 : decode cJ7_copyOfRangeByte_39247 0 = .ok (.iload_n 1, 1) := by decide +kernel
theorem dJ7_copyOfRangeByte_39247_1 : decode cJ7_copyOfRangeByte_39247 1 = .ok (.iload_n 2, 1) := by decide +kernel
theorem dJ7_copyOfRangeByte_39247_2 : decode cJ7_copyOfRangeByte_39247 2 = .ok (.invokestatic 343, 3) := by decide +kernel
theorem dJ7_copyOfRangeByte_39247_5 : decode cJ7_copyOfRangeByte_39247 5 = .ok (.iload_n 2, 1) := by decide +kernel
theorem dJ7_copyOfRangeByte_39247_6 : decode cJ7_copyOfRangeByte_39247 6 = .ok (.iload_n 1, 1) := by decide +kernel
theorem dJ7_copyOfRangeByte_39247_7 : decode cJ7_copyOfRangeByte_39247 7 = .ok (.isub, 1) := by decide +kernel
theorem dJ7_copyOfRangeByte_39247_8 : decode cJ7_copyOfRangeByte_39247 8 = .ok (.istore_n 3, 1) := by decide +kernel
theorem dJ7_copyOfRangeByte_39247_9 : decode cJ7_copyOfRangeByte_39247 9 = .ok (.iload_n 3, 1) := by decide +kernel
theorem dJ7_copyOfRangeByte_39247_10 : decode cJ7_copyOfRangeByte_39247 10 = .ok (.newarray .byte, 2) := by decide +kernel
theorem dJ7_copyOfRangeByte_39247_12 : decode cJ7_copyOfRangeByte_39247 12 = .ok (.astore 4, 2) := by decide +kernel
theorem dJ7_copyOfRangeByte_39247_14 : decode cJ7_copyOfRangeByte_39247 14 = .ok (.aload_n 0, 1) := by decide +kernel
theorem dJ7_copyOfRangeByte_39247_15 : decode cJ7_copyOfRangeByte_39247 15 = .ok (.iload_n 1, 1) := by decide +kernel
theorem dJ7_copyOfRangeByte_39247_16 : decode cJ7_copyOfRangeByte_39247 16 = .ok (.aload 4, 2) := by decide +kernel
theorem dJ7_copyOfRangeByte_39247_18 : decode cJ7_copyOfRangeByte_39247 18 = .ok (.iconst 0, 1) := by decide +kernel
theorem dJ7_copyOfRangeByte_39247_19 : decode cJ7_copyOfRangeByte_39247 19 = .ok (.aload_n 0, 1) := by decide +kernel
theorem dJ7_copyOfRangeByte_39247_20 : decode cJ7_copyOfRangeByte_39247 20 = .ok (.arraylength, 1) := by decide +kernel
theorem dJ7_copyOfRangeByte_39247_21 : decode cJ7_copyOfRangeByte_39247 21 = .ok (.iload_n 1, 1) := by decide +kernel
theorem dJ7_copyOfRangeByte_39247_22 : decode cJ7_copyOfRangeByte_39247 22 = .ok (.isub, 1) := by decide +kernel
theorem dJ7_copyOfRangeByte_39247_23 : decode cJ7_copyOfRangeByte_39247 23 = .ok (.iload_n 3, 1) := by decide +kernel
theorem dJ7_copyOfRangeByte_39247_24 : decode cJ7_copyOfRangeByte_39247 24 = .ok (.invokestatic 304, 3) := by decide +kernel
theorem dJ7_copyOfRangeByte_39247_27 : decode cJ7_copyOfRangeByte_39247 27 = .ok (.invokestatic 150, 3) := by decide +kernel
theorem dJ7_copyOfRangeByte_39247_30 : decode cJ7_copyOfRangeByte_39247 30 = .ok (.aload 4, 2) := by decide +kernel
theorem dJ7_copyOfRangeByte_39247_32 : decode cJ7_copyOfRangeByte_39247 32 = .ok (.areturn, 1) := by decide +kernel
set_option maxRecDepth 20000 in
theorem ggJ8_newLength_cabcc_J8_hugeLength_7cf53 : GoodIn wsJ8_newLength_cabcc wsJ8_hugeLength_7cf53 := goodIn_r _ [9, 5] (by decide +kernel) (by decide +kernel)
set_option maxRecDepth 20000 in
theorem gJ8_newLength_cabcc_J8_hugeLength_7cf53 : GoodIn wsJ8_newLength_cabcc (va_wsS RJ8 201 yJ8_hugeLength_7cf53 wsJ8_hugeLength_7cf53) := goodIn_app (goodIn_of _ (by decide +kernel)) ggJ8_newLength_cabcc_J8_hugeLength_7cf53
theorem dJ8_newLength_cabcc_0 : decode cJ8_newLength_cabcc 0 = .ok (.iload_n 0, 1) := by decide +kernel
theorem dJ8_newLength_cabcc_1 : decode cJ8_newLength_cabcc 1 = .ok (.iload_n 1, 1) := by decide +kernel
theorem dJ8_newLength_cabcc_2 : decode cJ8_newLength_cabcc 2 = .ok (.iload_n 2, 1) := by decide +kernel
theorem dJ8_newLength_cabcc_3 : decode cJ8_newLength_cabcc 3 = .ok (.invokestatic 194, 3) := by decide +kernel
theorem dJ8_newLength_cabcc_6 : decode cJ8_newLength_cabcc 6 = .ok (.iadd, 1) := by decide +kernel
theorem dJ8_newLength_cabcc_7 : decode cJ8_newLength_cabcc 7 = .ok (.istore_n 3, 1) := by decide +kernel
theorem dJ8_newLength_cabcc_8 : decode cJ8_newLength_cabcc 8 = .ok (.iconst 0, 1) := by decide +kernel
theorem dJ8_newLength_cabcc_9 : decode cJ8_newLength_cabcc 9 = .ok (.iload_n 3, 1) := by decide +kernel
theorem dJ8_newLength_cabcc_10 : decode cJ8_newLength_cabcc 10 = .ok (.if_icmp .ge 11, 3) := by decide +kernel
theorem dJ8_newLength_cabcc_13 : decode cJ8_newLength_cabcc 13 = .ok (.iload_n 3, 1) := by decide +kernel
theorem dJ8_newLength_cabcc_14 : decode cJ8_newLength_cabcc 14 = .ok (.ldc 200, 2) := by decide +kernel
theorem dJ8_newLength_cabcc_16 : decode cJ8_newLength_cabcc 16 = .ok (.if_icmp .gt 5, 3) := by decide +kernel
theorem dJ8_newLength_cabcc_19 : decode cJ8_newLength_cabcc 19 = .ok (.iload_n 3, 1) := by decide +kernel
theorem dJ8_newLength_cabcc_20 : decode cJ8_newLength_cabcc 20 = .ok (.ireturn, 1) := by decide +kernel
theorem dJ8_newLength_cabcc_21 : decode cJ8_newLength_cabcc 21 = .ok (.iload_n 0, 1) := by decide +kernel
theorem dJ8_newLength_cabcc_22 : decode cJ8_newLength_cabcc 22 = .ok (.iload_n 1, 1) := by decide +kernel
theorem dJ8_newLength_cabcc_23 : decode cJ8_newLength_cabcc 23 = .ok (.invokestatic 201, 3) := by decide +kernel
theorem dJ8_newLength_cabcc_26 : decode cJ8_newLength_cabcc 26 = .ok (.ireturn, 1) := by decide +kernel
theorem dJ8_hugeLength_7cf53_0 : decode cJ8_hugeLength_7cf53 0 = .ok (.iload_n 0, 1) := by decide +kernel
theorem dJ8_hugeLength_7cf53_1 : decode cJ8_hugeLength_7cf53 1 = .ok (.iload_n 1, 1) := by decide +kernel
theorem dJ8_hugeLength_7cf53_2 : decode cJ8_hugeLength_7cf53 2 = .ok (.iadd, 1) := by decide +kernel
theorem dJ8_hugeLength_7cf53_3 : decode cJ8_hugeLength_7cf53 3 = .ok (.istore_n 2, 1) := by decide +kernel
theorem dJ8_hugeLength_7cf53_4 : decode cJ8_hugeLength_7cf53 4 = .ok (.iload_n 2, 1) := by decide +kernel
theorem dJ8_hugeLength_7cf53_5 : decode cJ8_hugeLength_7cf53 5 = .ok (.ifCond .ge 44, 3) := by decide +kernel
theorem dJ8_hugeLength_7cf53_8 : decode cJ8_hugeLength_7cf53 8 = .ok (.new 204, 3) := by decide +kernel
theorem dJ8_hugeLength_7cf53_11 : decode cJ8_hugeLength_7cf53 11 = .ok (.dup, 1) := by decide +kernel
theorem dJ8_hugeLength_7cf53_12 : decode cJ8_hugeLength_7cf53 12 = .ok (.new 89, 3) := by decide +kernel
theorem dJ8_hugeLength_7cf53_15 : decode cJ8_hugeLength_7cf53 15 = .ok (.dup, 1) := by decide +kernel
theorem dJ8_hugeLength_7cf53_16 : decode cJ8_hugeLength_7cf53 16 = .ok (.invokespecial 91, 3) := by decide +kernel
theorem dJ8_hugeLength_7cf53_19 : decode cJ8_hugeLength_7cf53 19 = .ok (.ldc 206, 2) := by decide +kernel
theorem dJ8_hugeLength_7cf53_21 : decode cJ8_hugeLength_7cf53 21 = .ok (.invokevirtual 94, 3) := by decide +kernel
theorem dJ8_hugeLength_7cf53_24 : decode cJ8_hugeLength_7cf53 24 = .ok (.iload_n 0, 1) := by decide +kernel
theorem dJ8_hugeLength_7cf53_25 : decode cJ8_hugeLength_7cf53 25 = .ok (.invokevirtual 98, 3) := by decide +kernel
theorem dJ8_hugeLength_7cf53_28 : decode cJ8_hugeLength_7cf53 28 = .ok (.ldc 208, 2) := by decide +kernel
theorem dJ8_hugeLength_7cf53_30 : decode cJ8_hugeLength_7cf53 30 = .ok (.invokevirtual 94, 3) := by decide +kernel
theorem dJ8_hugeLength_7cf53_33 : decode cJ8_hugeLength_7cf53 33 = .ok (.iload_n 1, 1) := by decide +kernel
theorem dJ8_hugeLength_7cf53_34 : decode cJ8_hugeLength_7cf53 34 = .ok (.invokevirtual 98, 3) := by decide +kernel
theorem dJ8_hugeLength_7cf53_37 : decode cJ8_hugeLength_7cf53 37 = .ok (.ldc 210, 2) := by decide +kernel
theorem dJ8_hugeLength_7cf53_39 : decode cJ8_hugeLength_7cf53 39 = .ok (.invokevirtual 94, 3) := by decide +kernel
theorem dJ8_hugeLength_7cf53_42 : decode cJ8_hugeLength_7cf53 42 = .ok (.invokevirtual 101, 3) := by decide +kernel
theorem dJ8_hugeLength_7cf53_45 : decode cJ8_hugeLength_7cf53 45 = .ok (.invokespecial 212, 3) := by decide +kernel
theorem dJ8_hugeLength_7cf53_48 : decode cJ8_hugeLength_7cf53 48 = .ok (.athrow, 1) := by decide +kernel
theorem dJ8_hugeLength_7cf53_49 : decode cJ8_hugeLength_7cf53 49 = .ok (.iload_n 2, 1) := by decide +kernel
theorem dJ8_hugeLength_7cf53_50 : decode cJ8_hugeLength_7cf53 50 = .ok (.ldc 200, 2) := by decide +kernel
theorem dJ8_hugeLength_7cf53_52 : decode cJ8_hugeLength_7cf53 52 = .ok (.if_icmp .gt 6, 3) := by decide +kernel
theorem dJ8_hugeLength_7cf53_55 : decode cJ8_hugeLength_7cf53 55 = .ok (.ldc 200, 2) := by decide +kernel
theorem dJ8_hugeLength_7cf53_57 : decode cJ8_hugeLength_7cf53 57 = .ok (.ireturn, 1) := by decide +kernel
theorem dJ8_hugeLength_7cf53_58 : decode cJ8_hugeLength_7cf53 58 = .ok (.iload_n 2, 1) := by decide +kernel
theorem dJ8_hugeLength_7cf53_59 : decode cJ8_hugeLength_7cf53 59 = .ok (.ireturn, 1) := by decide +kernel
theorem dJ3_checkFromToIndex_8c36e_0 : decode cJ3_checkFromToIndex_8c36e 0 = .ok (.iload_n 0, 1) := by decide +kernel
theorem dJ3_checkFromToIndex_8c36e_1 : decode cJ3_checkFromToIndex_8c36e 1 = .ok (.ifCond .lt 13, 3) := by decide +kernel
theorem dJ3_checkFromToIndex_8c36e_4 : decode cJ3_checkFromToIndex_8c36e 4 = .ok (.iload_n 0, 1) := by decide +kernel
theorem dJ3_checkFromToIndex_8c36e_5 : decode cJ3_checkFromToIndex_8c36e 5 = .ok (.iload_n 1, 1) := by decide +kernel
theorem dJ3_checkFromToIndex_8c36e_6 : decode cJ3_checkFromToIndex_8c36e 6 = .ok (.if_icmp .gt 8, 3) := by decide +kernel
theorem dJ3_checkFromToIndex_8c36e_9 : decode cJ3_checkFromToIndex_8c36e 9 = .ok (.iload_n 1, 1) := by decide +kernel
theorem dJ3_checkFromToIndex_8c36e_10 : decode cJ3_checkFromToIndex_8c36e 10 = .ok (.iload_n 2, 1) := by decide +kernel
theorem dJ3_checkFromToIndex_8c36e_11 : decode cJ3_checkFromToIndex_8c36e 11 = .ok (.if_icmp .le 11, 3) := by decide +kernel
theorem dJ3_checkFromToIndex_8c36e_14 : decode cJ3_checkFromToIndex_8c36e 14 = .ok (.aload_n 3, 1) := by decide +kernel
theorem dJ3_checkFromToIndex_8c36e_15 : decode cJ3_checkFromToIndex_8c36e 15 = .ok (.iload_n 0, 1) := by decide +kernel
theorem dJ3_checkFromToIndex_8c36e_16 : decode cJ3_checkFromToIndex_8c36e 16 = .ok (.iload_n 1, 1) := by decide +kernel
theorem dJ3_checkFromToIndex_8c36e_17 : decode cJ3_checkFromToIndex_8c36e 17 = .ok (.iload_n 2, 1) := by decide +kernel
theorem dJ3_checkFromToIndex_8c36e_18 : decode cJ3_checkFromToIndex_8c36e 18 = .ok (.invokestatic 99, 3) := by decide +kernel
theorem dJ3_checkFromToIndex_8c36e_21 : decode cJ3_checkFromToIndex_8c36e 21 = .ok (.athrow, 1) := by decide +kernel
theorem dJ3_checkFromToIndex_8c36e_22 : decode cJ3_checkFromToIndex_8c36e 22 = .ok (.iload_n 0, 1) := by decide +kernel
theorem dJ3_checkFromToIndex_8c36e_23 : decode cJ3_checkFromToIndex_8c36e 23 = .ok (.ireturn, 1) := by decide +kernel
theorem dJ3_checkFromIndexSize_8c36e_0 : decode cJ3_checkFromIndexSize_8c36e 0 = .ok (.iload_n 2, 1) := by decide +kernel
theorem dJ3_checkFromIndexSize_8c36e_1 : decode cJ3_checkFromIndexSize_8c36e 1 = .ok (.iload_n 0, 1) := by decide +kernel
theorem dJ3_checkFromIndexSize_8c36e_2 : decode cJ3_checkFromIndexSize_8c36e 2 = .ok (.ior, 1) := by decide +kernel
theorem dJ3_checkFromIndexSize_8c36e_3 : decode cJ3_checkFromIndexSize_8c36e 3 = .ok (.iload_n 1, 1) := by decide +kernel
theorem dJ3_checkFromIndexSize_8c36e_4 : decode cJ3_checkFromIndexSize_8c36e 4 = .ok (.ior, 1) := by decide +kernel
theorem dJ3_checkFromIndexSize_8c36e_5 : decode cJ3_checkFromIndexSize_8c36e 5 = .ok (.ifCond .lt 10, 3) := by decide +kernel
theorem dJ3_checkFromIndexSize_8c36e_8 : decode cJ3_checkFromIndexSize_8c36e 8 = .ok (.iload_n 1, 1) := by decide +kernel
theorem dJ3_checkFromIndexSize_8c36e_9 : decode cJ3_checkFromIndexSize_8c36e 9 = .ok (.iload_n 2, 1) := by decide +kernel
theorem dJ3_checkFromIndexSize_8c36e_10 : decode cJ3_checkFromIndexSize_8c36e 10 = .ok (.iload_n 0, 1) := by decide +kernel
theorem dJ3_checkFromIndexSize_8c36e_11 : decode cJ3_checkFromIndexSize_8c36e 11 = .ok (.isub, 1) := by decide +kernel
theorem dJ3_checkFromIndexSize_8c36e_12 : decode cJ3_checkFromIndexSize_8c36e 12 = .ok (.if_icmp .le 11, 3) := by decide +kernel
theorem dJ3_checkFromIndexSize_8c36e_15 : decode cJ3_checkFromIndexSize_8c36e 15 = .ok (.aload_n 3, 1) := by decide +kernel
theorem dJ3_checkFromIndexSize_8c36e_16 : decode cJ3_checkFromIndexSize_8c36e 16 = .ok (.iload_n 0, 1) := by decide +kernel
theorem dJ3_checkFromIndexSize_8c36e_17 : decode cJ3_checkFromIndexSize_8c36e 17 = .ok (.iload_n 1, 1) := by decide +kernel
theorem dJ3_checkFromIndexSize_8c36e_18 : decode cJ3_checkFromIndexSize_8c36e 18 = .ok (.iload_n 2, 1) := by decide +kernel
theorem dJ3_checkFromIndexSize_8c36e_19 : decode cJ3_checkFromIndexSize_8c36e 19 = .ok (.invokestatic 103, 3) := by decide +kernel
theorem dJ3_checkFromIndexSize_8c36e_22 : decode cJ3_checkFromIndexSize_8c36e 22 = .ok (.athrow, 1) := by decide +kernel
theorem dJ3_checkFromIndexSize_8c36e_23 : decode cJ3_checkFromIndexSize_8c36e 23 = .ok (.iload_n 0, 1) := by decide +kernel
theorem dJ3_checkFromIndexSize_8c36e_24 : decode cJ3_checkFromIndexSize_8c36e 24 = .ok (.ireturn, 1) := by decide +kernel
set_option maxRecDepth 20000 in
theorem ggL_element_X11_element : GoodIn wsL_element wsX11_element := goodIn_ca (goodIn_ca (goodIn_r _ [7, 8, 9, 10, 11, 12, 13, 14, 6, 15, 16, 17, 18, 19, 20, 21, 22, 23, 24, 25, 26, 27, 28, 29, 30, 31, 32, 33, 34, 35, 36, 37, 38, 39] (by decide +kernel) (by decide +kernel)) (goodIn_sub (fun _ h => List.mem_cons_of_mem _ (List.mem_append_left _ (List.mem_append_right _ h))) (by decide +kernel))) (goodIn_sub (fun _ h => List.mem_cons_of_mem _ (List.mem_append_right _ h)) (by decide +kernel))
set_option maxRecDepth 20000 in
theorem gL_element_X11_element : GoodIn wsL_element (wsV RL 7 RX11 yX11_element wsX11_element) := goodIn_app (goodIn_of _ (by decide +kernel)) ggL_element_X11_element
theorem dL_element_0 : decode cL_element 0 = .ok (.aload_n 3, 1) := by decide +kernel
theorem dL_element_1 : decode cL_element 1 = .ok (.iconst 0, 1) := by decide +kernel
theorem dL_element_2 : decode cL_element 2 = .ok (.aload_n 0, 1) := by decide +kernel
theorem dL_element_3 : decode cL_element 3 = .ok (.iload_n 1, 1) := by decide +kernel
theorem dL_element_4 : decode cL_element 4 = .ok (.iload_n 2, 1) := by decide +kernel
theorem dL_element_5 : decode cL_element 5 = .ok (.invokevirtual 7, 3) := by decide +kernel
theorem dL_element_8 : decode cL_element 8 = .ok (.lastore, 1) := by decide +kernel
theorem dL_element_9 : decode cL_element 9 = .ok (.goto 11, 3) := by decide +kernel
theorem dL_element_12 : decode cL_element 12 = .ok (.astore 4, 2) := by decide +kernel
theorem dL_element_14 : decode cL_element 14 = .ok (.iconst 1, 1) := by decide +kernel
theorem dL_element_15 : decode cL_element 15 = .ok (.ireturn, 1) := by decide +kernel
theorem dL_element_16 : decode cL_element 16 = .ok (.astore 4, 2) := by decide +kernel
theorem dL_element_18 : decode cL_element 18 = .ok (.iconst 2, 1) := by decide +kernel
theorem dL_element_19 : decode cL_element 19 = .ok (.ireturn, 1) := by decide +kernel
theorem dL_element_20 : decode cL_element 20 = .ok (.iconst 0, 1) := by decide +kernel
theorem dL_element_21 : decode cL_element 21 = .ok (.ireturn, 1) := by decide +kernel
theorem dL_law_0 : decode cL_law 0 = .ok (.new 8, 3) := by decide +kernel
theorem dL_law_3 : decode cL_law 3 = .ok (.dup, 1) := by decide +kernel
theorem dL_law_4 : decode cL_law 4 = .ok (.invokespecial 17, 3) := by decide +kernel
theorem dL_law_7 : decode cL_law 7 = .ok (.astore_n 1, 1) := by decide +kernel
theorem dL_law_8 : decode cL_law 8 = .ok (.new 18, 3) := by decide +kernel
theorem dL_law_11 : decode cL_law 11 = .ok (.dup, 1) := by decide +kernel
theorem dL_law_12 : decode cL_law 12 = .ok (.invokespecial 20, 3) := by decide +kernel
theorem dL_law_15 : decode cL_law 15 = .ok (.astore_n 2, 1) := by decide +kernel
theorem dL_law_16 : decode cL_law 16 = .ok (.iconst 1, 1) := by decide +kernel
theorem dL_law_17 : decode cL_law 17 = .ok (.newarray .long, 2) := by decide +kernel
theorem dL_law_19 : decode cL_law 19 = .ok (.astore_n 3, 1) := by decide +kernel
theorem dL_law_20 : decode cL_law 20 = .ok (.iconst 0, 1) := by decide +kernel
theorem dL_law_21 : decode cL_law 21 = .ok (.istore 4, 2) := by decide +kernel
theorem dL_law_23 : decode cL_law 23 = .ok (.iload 4, 2) := by decide +kernel
theorem dL_law_25 : decode cL_law 25 = .ok (.aload_n 0, 1) := by decide +kernel
theorem dL_law_26 : decode cL_law 26 = .ok (.arraylength, 1) := by decide +kernel
theorem dL_law_27 : decode cL_law 27 = .ok (.bipush 6, 2) := by decide +kernel
theorem dL_law_29 : decode cL_law 29 = .ok (.isub, 1) := by decide +kernel
theorem dL_law_30 : decode cL_law 30 = .ok (.if_icmp .gt 1579, 3) := by decide +kernel
theorem dL_law_33 : decode cL_law 33 = .ok (.aload_n 0, 1) := by decide +kernel
theorem dL_law_34 : decode cL_law 34 = .ok (.iload 4, 2) := by decide +kernel
theorem dL_law_36 : decode cL_law 36 = .ok (.iaload, 1) := by decide +kernel
theorem dL_law_37 : decode cL_law 37 = .ok (.bipush 31, 2) := by decide +kernel
theorem dL_law_39 : decode cL_law 39 = .ok (.iand, 1) := by decide +kernel
theorem dL_law_40 : decode cL_law 40 = .ok (.tableswitch 1563 0 28 #[132, 169, 230, 307, 368, 421, 458, 495, 584, 633, 670, 719, 768, 845, 870, 931, 1004, 1041, 1090, 1139, 1200, 1237, 1250, 1275, 1324, 1373, 1440, 1513, 1538], 132) := by decide +kernel
theorem dL_law_172 : decode cL_law 172 = .ok (.aload_n 1, 1) := by decide +kernel
theorem dL_law_173 : decode cL_law 173 = .ok (.aload_n 0, 1) := by decide +kernel
theorem dL_law_174 : decode cL_law 174 = .ok (.iload 4, 2) := by decide +kernel
theorem dL_law_176 : decode cL_law 176 = .ok (.iconst 1, 1) := by decide +kernel
theorem dL_law_177 : decode cL_law 177 = .ok (.iadd, 1) := by decide +kernel
theorem dL_law_178 : decode cL_law 178 = .ok (.iaload, 1) := by decide +kernel
theorem dL_law_179 : decode cL_law 179 = .ok (.aload_n 0, 1) := by decide +kernel
theorem dL_law_180 : decode cL_law 180 = .ok (.iload 4, 2) := by decide +kernel
theorem dL_law_182 : decode cL_law 182 = .ok (.iconst 2, 1) := by decide +kernel
theorem dL_law_183 : decode cL_law 183 = .ok (.iadd, 1) := by decide +kernel
theorem dL_law_184 : decode cL_law 184 = .ok (.iaload, 1) := by decide +kernel
theorem dL_law_185 : decode cL_law 185 = .ok (.invokevirtual 21, 3) := by decide +kernel
theorem dL_law_188 : decode cL_law 188 = .ok (.aload_n 2, 1) := by decide +kernel
theorem dL_law_189 : decode cL_law 189 = .ok (.aload_n 0, 1) := by decide +kernel
theorem dL_law_190 : decode cL_law 190 = .ok (.iload 4, 2) := by decide +kernel
theorem dL_law_192 : decode cL_law 192 = .ok (.iconst 1, 1) := by decide +kernel
theorem dL_law_193 : decode cL_law 193 = .ok (.iadd, 1) := by decide +kernel
theorem dL_law_194 : decode cL_law 194 = .ok (.iaload, 1) := by decide +kernel
theorem dL_law_195 : decode cL_law 195 = .ok (.aload_n 0, 1) := by decide +kernel
theorem dL_law_196 : decode cL_law 196 = .ok (.iload 4, 2) := by decide +kernel
theorem dL_law_198 : decode cL_law 198 = .ok (.iconst 2, 1) := by decide +kernel
theorem dL_law_199 : decode cL_law 199 = .ok (.iadd, 1) := by decide +kernel
theorem dL_law_200 : decode cL_law 200 = .ok (.iaload, 1) := by decide +kernel
theorem dL_law_201 : decode cL_law 201 = .ok (.invokevirtual 25, 3) := by decide +kernel
theorem dL_law_204 : decode cL_law 204 = .ok (.if_icmp .eq 1399, 3) := by decide +kernel
theorem dL_law_207 : decode cL_law 207 = .ok (.iconst 0, 1) := by decide +kernel
theorem dL_law_208 : decode cL_law 208 = .ok (.ireturn, 1) := by decide +kernel
theorem dL_law_209 : decode cL_law 209 = .ok (.aload_n 1, 1) := by decide +kernel
theorem dL_law_210 : decode cL_law 210 = .ok (.aload_n 0, 1) := by decide +kernel
theorem dL_law_211 : decode cL_law 211 = .ok (.iload 4, 2) := by decide +kernel
theorem dL_law_213 : decode cL_law 213 = .ok (.iconst 1, 1) := by decide +kernel
theorem dL_law_214 : decode cL_law 214 = .ok (.iadd, 1) := by decide +kernel
theorem dL_law_215 : decode cL_law 215 = .ok (.iaload, 1) := by decide +kernel
theorem dL_law_216 : decode cL_law 216 = .ok (.aload_n 0, 1) := by decide +kernel
theorem dL_law_217 : decode cL_law 217 = .ok (.iload 4, 2) := by decide +kernel
theorem dL_law_219 : decode cL_law 219 = .ok (.iconst 2, 1) := by decide +kernel
theorem dL_law_220 : decode cL_law 220 = .ok (.iadd, 1) := by decide +kernel
theorem dL_law_221 : decode cL_law 221 = .ok (.iaload, 1) := by decide +kernel
theorem dL_law_222 : decode cL_law 222 = .ok (.aload_n 0, 1) := by decide +kernel
theorem dL_law_223 : decode cL_law 223 = .ok (.iload 4, 2) := by decide +kernel
theorem dL_law_225 : decode cL_law 225 = .ok (.iconst 3, 1) := by decide +kernel
theorem dL_law_226 : decode cL_law 226 = .ok (.iadd, 1) := by decide +kernel
theorem dL_law_227 : decode cL_law 227 = .ok (.iaload, 1) := by decide +kernel
theorem dL_law_228 : decode cL_law 228 = .ok (.aload_n 0, 1) := by decide +kernel
theorem dL_law_229 : decode cL_law 229 = .ok (.iload 4, 2) := by decide +kernel
theorem dL_law_231 : decode cL_law 231 = .ok (.iconst 4, 1) := by decide +kernel
theorem dL_law_232 : decode cL_law 232 = .ok (.iadd, 1) := by decide +kernel
theorem dL_law_233 : decode cL_law 233 = .ok (.iaload, 1) := by decide +kernel
theorem dL_law_234 : decode cL_law 234 = .ok (.invokevirtual 26, 3) := by decide +kernel
theorem dL_law_237 : decode cL_law 237 = .ok (.aload_n 2, 1) := by decide +kernel
theorem dL_law_238 : decode cL_law 238 = .ok (.aload_n 0, 1) := by decide +kernel
theorem dL_law_239 : decode cL_law 239 = .ok (.iload 4, 2) := by decide +kernel
theorem dL_law_241 : decode cL_law 241 = .ok (.iconst 1, 1) := by decide +kernel
theorem dL_law_242 : decode cL_law 242 = .ok (.iadd, 1) := by decide +kernel
theorem dL_law_243 : decode cL_law 243 = .ok (.iaload, 1) := by decide +kernel
theorem dL_law_244 : decode cL_law 244 = .ok (.aload_n 0, 1) := by decide +kernel
theorem dL_law_245 : decode cL_law 245 = .ok (.iload 4, 2) := by decide +kernel
theorem dL_law_247 : decode cL_law 247 = .ok (.iconst 2, 1) := by decide +kernel
theorem dL_law_248 : decode cL_law 248 = .ok (.iadd, 1) := by decide +kernel
theorem dL_law_249 : decode cL_law 249 = .ok (.iaload, 1) := by decide +kernel
theorem dL_law_250 : decode cL_law 250 = .ok (.aload_n 0, 1) := by decide +kernel
theorem dL_law_251 : decode cL_law 251 = .ok (.iload 4, 2) := by decide +kernel
theorem dL_law_253 : decode cL_law 253 = .ok (.iconst 3, 1) := by decide +kernel
theorem dL_law_254 : decode cL_law 254 = .ok (.iadd, 1) := by decide +kernel
theorem dL_law_255 : decode cL_law 255 = .ok (.iaload, 1) := by decide +kernel
theorem dL_law_256 : decode cL_law 256 = .ok (.aload_n 0, 1) := by decide +kernel
theorem dL_law_257 : decode cL_law 257 = .ok (.iload 4, 2) := by decide +kernel
theorem dL_law_259 : decode cL_law 259 = .ok (.iconst 4, 1) := by decide +kernel
theorem dL_law_260 : decode cL_law 260 = .ok (.iadd, 1) := by decide +kernel
theorem dL_law_261 : decode cL_law 261 = .ok (.iaload, 1) := by decide +kernel
theorem dL_law_262 : decode cL_law 262 = .ok (.invokevirtual 30, 3) := by decide +kernel
theorem dL_law_265 : decode cL_law 265 = .ok (.if_icmp .eq 1338, 3) := by decide +kernel
theorem dL_law_268 : decode cL_law 268 = .ok (.iconst 0, 1) := by decide +kernel
theorem dL_law_269 : decode cL_law 269 = .ok (.ireturn, 1) := by decide +kernel
theorem dL_law_270 : decode cL_law 270 = .ok (.aload_n 1, 1) := by decide +kernel
theorem dL_law_271 : decode cL_law 271 = .ok (.aload_n 0, 1) := by decide +kernel
theorem dL_law_272 : decode cL_law 272 = .ok (.iload 4, 2) := by decide +kernel
theorem dL_law_274 : decode cL_law 274 = .ok (.iconst 1, 1) := by decide +kernel
theorem dL_law_275 : decode cL_law 275 = .ok (.iadd, 1) := by decide +kernel
theorem dL_law_276 : decode cL_law 276 = .ok (.iaload, 1) := by decide +kernel
theorem dL_law_277 : decode cL_law 277 = .ok (.aload_n 0, 1) := by decide +kernel
theorem dL_law_278 : decode cL_law 278 = .ok (.iload 4, 2) := by decide +kernel
theorem dL_law_280 : decode cL_law 280 = .ok (.iconst 2, 1) := by decide +kernel
theorem dL_law_281 : decode cL_law 281 = .ok (.iadd, 1) := by decide +kernel
theorem dL_law_282 : decode cL_law 282 = .ok (.iaload, 1) := by decide +kernel
theorem dL_law_283 : decode cL_law 283 = .ok (.aload_n 0, 1) := by decide +kernel
theorem dL_law_284 : decode cL_law 284 = .ok (.iload 4, 2) := by decide +kernel
theorem dL_law_286 : decode cL_law 286 = .ok (.iconst 3, 1) := by decide +kernel
theorem dL_law_287 : decode cL_law 287 = .ok (.iadd, 1) := by decide +kernel
theorem dL_law_288 : decode cL_law 288 = .ok (.iaload, 1) := by decide +kernel
theorem dL_law_289 : decode cL_law 289 = .ok (.aload_n 0, 1) := by decide +kernel
theorem dL_law_290 : decode cL_law 290 = .ok (.iload 4, 2) := by decide +kernel
theorem dL_law_292 : decode cL_law 292 = .ok (.iconst 4, 1) := by decide +kernel
theorem dL_law_293 : decode cL_law 293 = .ok (.iadd, 1) := by decide +kernel
theorem dL_law_294 : decode cL_law 294 = .ok (.iaload, 1) := by decide +kernel
theorem dL_law_295 : decode cL_law 295 = .ok (.ifCond .eq 7, 3) := by decide +kernel
theorem dL_law_298 : decode cL_law 298 = .ok (.iconst 1, 1) := by decide +kernel
theorem dL_law_299 : decode cL_law 299 = .ok (.goto 4, 3) := by decide +kernel
theorem dL_law_302 : decode cL_law 302 = .ok (.iconst 0, 1) := by decide +kernel
theorem dL_law_303 : decode cL_law 303 = .ok (.invokevirtual 31, 3) := by decide +kernel
theorem dL_law_306 : decode cL_law 306 = .ok (.aload_n 2, 1) := by decide +kernel
theorem dL_law_307 : decode cL_law 307 = .ok (.aload_n 0, 1) := by decide +kernel
theorem dL_law_308 : decode cL_law 308 = .ok (.iload 4, 2) := by decide +kernel
theorem dL_law_310 : decode cL_law 310 = .ok (.iconst 1, 1) := by decide +kernel
theorem dL_law_311 : decode cL_law 311 = .ok (.iadd, 1) := by decide +kernel
theorem dL_law_312 : decode cL_law 312 = .ok (.iaload, 1) := by decide +kernel
theorem dL_law_313 : decode cL_law 313 = .ok (.aload_n 0, 1) := by decide +kernel
theorem dL_law_314 : decode cL_law 314 = .ok (.iload 4, 2) := by decide +kernel
theorem dL_law_316 : decode cL_law 316 = .ok (.iconst 2, 1) := by decide +kernel
theorem dL_law_317 : decode cL_law 317 = .ok (.iadd, 1) := by decide +kernel
theorem dL_law_318 : decode cL_law 318 = .ok (.iaload, 1) := by decide +kernel
theorem dL_law_319 : decode cL_law 319 = .ok (.aload_n 0, 1) := by decide +kernel
theorem dL_law_320 : decode cL_law 320 = .ok (.iload 4, 2) := by decide +kernel
theorem dL_law_322 : decode cL_law 322 = .ok (.iconst 3, 1) := by decide +kernel
theorem dL_law_323 : decode cL_law 323 = .ok (.iadd, 1) := by decide +kernel
theorem dL_law_324 : decode cL_law 324 = .ok (.iaload, 1) := by decide +kernel
theorem dL_law_325 : decode cL_law 325 = .ok (.aload_n 0, 1) := by decide +kernel
theorem dL_law_326 : decode cL_law 326 = .ok (.iload 4, 2) := by decide +kernel
theorem dL_law_328 : decode cL_law 328 = .ok (.iconst 4, 1) := by decide +kernel
theorem dL_law_329 : decode cL_law 329 = .ok (.iadd, 1) := by decide +kernel
theorem dL_law_330 : decode cL_law 330 = .ok (.iaload, 1) := by decide +kernel
theorem dL_law_331 : decode cL_law 331 = .ok (.ifCond .eq 7, 3) := by decide +kernel
theorem dL_law_334 : decode cL_law 334 = .ok (.iconst 1, 1) := by decide +kernel
theorem dL_law_335 : decode cL_law 335 = .ok (.goto 4, 3) := by decide +kernel
theorem dL_law_338 : decode cL_law 338 = .ok (.iconst 0, 1) := by decide +kernel
theorem dL_law_339 : decode cL_law 339 = .ok (.invokevirtual 35, 3) := by decide +kernel
theorem dL_law_342 : decode cL_law 342 = .ok (.if_icmp .eq 1261, 3) := by decide +kernel
theorem dL_law_345 : decode cL_law 345 = .ok (.iconst 0, 1) := by decide +kernel
theorem dL_law_346 : decode cL_law 346 = .ok (.ireturn, 1) := by decide +kernel
theorem dL_law_347 : decode cL_law 347 = .ok (.aload_n 1, 1) := by decide +kernel
theorem dL_law_348 : decode cL_law 348 = .ok (.aload_n 0, 1) := by decide +kernel
theorem dL_law_349 : decode cL_law 349 = .ok (.iload 4, 2) := by decide +kernel
theorem dL_law_351 : decode cL_law 351 = .ok (.iconst 1, 1) := by decide +kernel
theorem dL_law_352 : decode cL_law 352 = .ok (.iadd, 1) := by decide +kernel
theorem dL_law_353 : decode cL_law 353 = .ok (.iaload, 1) := by decide +kernel
theorem dL_law_354 : decode cL_law 354 = .ok (.aload_n 0, 1) := by decide +kernel
theorem dL_law_355 : decode cL_law 355 = .ok (.iload 4, 2) := by decide +kernel
theorem dL_law_357 : decode cL_law 357 = .ok (.iconst 2, 1) := by decide +kernel
theorem dL_law_358 : decode cL_law 358 = .ok (.iadd, 1) := by decide +kernel
theorem dL_law_359 : decode cL_law 359 = .ok (.iaload, 1) := by decide +kernel
theorem dL_law_360 : decode cL_law 360 = .ok (.aload_n 0, 1) := by decide +kernel
theorem dL_law_361 : decode cL_law 361 = .ok (.iload 4, 2) := by decide +kernel
theorem dL_law_363 : decode cL_law 363 = .ok (.iconst 3, 1) := by decide +kernel
theorem dL_law_364 : decode cL_law 364 = .ok (.iadd, 1) := by decide +kernel
theorem dL_law_365 : decode cL_law 365 = .ok (.iaload, 1) := by decide +kernel
theorem dL_law_366 : decode cL_law 366 = .ok (.aload_n 0, 1) := by decide +kernel
theorem dL_law_367 : decode cL_law 367 = .ok (.iload 4, 2) := by decide +kernel
theorem dL_law_369 : decode cL_law 369 = .ok (.iconst 4, 1) := by decide +kernel
theorem dL_law_370 : decode cL_law 370 = .ok (.iadd, 1) := by decide +kernel
theorem dL_law_371 : decode cL_law 371 = .ok (.iaload, 1) := by decide +kernel
theorem dL_law_372 : decode cL_law 372 = .ok (.invokevirtual 36, 3) := by decide +kernel
theorem dL_law_375 : decode cL_law 375 = .ok (.aload_n 2, 1) := by decide +kernel
theorem dL_law_376 : decode cL_law 376 = .ok (.aload_n 0, 1) := by decide +kernel
theorem dL_law_377 : decode cL_law 377 = .ok (.iload 4, 2) := by decide +kernel
theorem dL_law_379 : decode cL_law 379 = .ok (.iconst 1, 1) := by decide +kernel
theorem dL_law_380 : decode cL_law 380 = .ok (.iadd, 1) := by decide +kernel
theorem dL_law_381 : decode cL_law 381 = .ok (.iaload, 1) := by decide +kernel
theorem dL_law_382 : decode cL_law 382 = .ok (.aload_n 0, 1) := by decide +kernel
theorem dL_law_383 : decode cL_law 383 = .ok (.iload 4, 2) := by decide +kernel
theorem dL_law_385 : decode cL_law 385 = .ok (.iconst 2, 1) := by decide +kernel
theorem dL_law_386 : decode cL_law 386 = .ok (.iadd, 1) := by decide +kernel
theorem dL_law_387 : decode cL_law 387 = .ok (.iaload, 1) := by decide +kernel
theorem dL_law_388 : decode cL_law 388 = .ok (.aload_n 0, 1) := by decide +kernel
theorem dL_law_389 : decode cL_law 389 = .ok (.iload 4, 2) := by decide +kernel
theorem dL_law_391 : decode cL_law 391 = .ok (.iconst 3, 1) := by decide +kernel
theorem dL_law_392 : decode cL_law 392 = .ok (.iadd, 1) := by decide +kernel
theorem dL_law_393 : decode cL_law 393 = .ok (.iaload, 1) := by decide +kernel
theorem dL_law_394 : decode cL_law 394 = .ok (.aload_n 0, 1) := by decide +kernel
theorem dL_law_395 : decode cL_law 395 = .ok (.iload 4, 2) := by decide +kernel
theorem dL_law_397 : decode cL_law 397 = .ok (.iconst 4, 1) := by decide +kernel
theorem dL_law_398 : decode cL_law 398 = .ok (.iadd, 1) := by decide +kernel
theorem dL_law_399 : decode cL_law 399 = .ok (.iaload, 1) := by decide +kernel
theorem dL_law_400 : decode cL_law 400 = .ok (.invokevirtual 39, 3) := by decide +kernel
theorem dL_law_403 : decode cL_law 403 = .ok (.if_icmp .eq 1200, 3) := by decide +kernel
theorem dL_law_406 : decode cL_law 406 = .ok (.iconst 0, 1) := by decide +kernel
theorem dL_law_407 : decode cL_law 407 = .ok (.ireturn, 1) := by decide +kernel
theorem dL_law_408 : decode cL_law 408 = .ok (.aload_n 1, 1) := by decide +kernel
theorem dL_law_409 : decode cL_law 409 = .ok (.aload_n 0, 1) := by decide +kernel
theorem dL_law_410 : decode cL_law 410 = .ok (.iload 4, 2) := by decide +kernel
theorem dL_law_412 : decode cL_law 412 = .ok (.iconst 1, 1) := by decide +kernel
theorem dL_law_413 : decode cL_law 413 = .ok (.iadd, 1) := by decide +kernel
theorem dL_law_414 : decode cL_law 414 = .ok (.iaload, 1) := by decide +kernel
theorem dL_law_415 : decode cL_law 415 = .ok (.aload_n 0, 1) := by decide +kernel
theorem dL_law_416 : decode cL_law 416 = .ok (.iload 4, 2) := by decide +kernel
theorem dL_law_418 : decode cL_law 418 = .ok (.iconst 2, 1) := by decide +kernel
theorem dL_law_419 : decode cL_law 419 = .ok (.iadd, 1) := by decide +kernel
theorem dL_law_420 : decode cL_law 420 = .ok (.iaload, 1) := by decide +kernel
theorem dL_law_421 : decode cL_law 421 = .ok (.ifCond .eq 7, 3) := by decide +kernel
theorem dL_law_424 : decode cL_law 424 = .ok (.iconst 1, 1) := by decide +kernel
theorem dL_law_425 : decode cL_law 425 = .ok (.goto 4, 3) := by decide +kernel
theorem dL_law_428 : decode cL_law 428 = .ok (.iconst 0, 1) := by decide +kernel
theorem dL_law_429 : decode cL_law 429 = .ok (.invokevirtual 40, 3) := by decide +kernel
theorem dL_law_432 : decode cL_law 432 = .ok (.aload_n 2, 1) := by decide +kernel
theorem dL_law_433 : decode cL_law 433 = .ok (.aload_n 0, 1) := by decide +kernel
theorem dL_law_434 : decode cL_law 434 = .ok (.iload 4, 2) := by decide +kernel
theorem dL_law_436 : decode cL_law 436 = .ok (.iconst 1, 1) := by decide +kernel
theorem dL_law_437 : decode cL_law 437 = .ok (.iadd, 1) := by decide +kernel
theorem dL_law_438 : decode cL_law 438 = .ok (.iaload, 1) := by decide +kernel
theorem dL_law_439 : decode cL_law 439 = .ok (.aload_n 0, 1) := by decide +kernel
theorem dL_law_440 : decode cL_law 440 = .ok (.iload 4, 2) := by decide +kernel
theorem dL_law_442 : decode cL_law 442 = .ok (.iconst 2, 1) := by decide +kernel
theorem dL_law_443 : decode cL_law 443 = .ok (.iadd, 1) := by decide +kernel
theorem dL_law_444 : decode cL_law 444 = .ok (.iaload, 1) := by decide +kernel
theorem dL_law_445 : decode cL_law 445 = .ok (.ifCond .eq 7, 3) := by decide +kernel
theorem dL_law_448 : decode cL_law 448 = .ok (.iconst 1, 1) := by decide +kernel
theorem dL_law_449 : decode cL_law 449 = .ok (.goto 4, 3) := by decide +kernel
theorem dL_law_452 : decode cL_law 452 = .ok (.iconst 0, 1) := by decide +kernel
theorem dL_law_453 : decode cL_law 453 = .ok (.invokevirtual 44, 3) := by decide +kernel
theorem dL_law_456 : decode cL_law 456 = .ok (.if_icmp .eq 1147, 3) := by decide +kernel
theorem dL_law_459 : decode cL_law 459 = .ok (.iconst 0, 1) := by decide +kernel
theorem dL_law_460 : decode cL_law 460 = .ok (.ireturn, 1) := by decide +kernel
theorem dL_law_461 : decode cL_law 461 = .ok (.aload_n 1, 1) := by decide +kernel
theorem dL_law_462 : decode cL_law 462 = .ok (.aload_n 0, 1) := by decide +kernel
theorem dL_law_463 : decode cL_law 463 = .ok (.iload 4, 2) := by decide +kernel
theorem dL_law_465 : decode cL_law 465 = .ok (.iconst 1, 1) := by decide +kernel
theorem dL_law_466 : decode cL_law 466 = .ok (.iadd, 1) := by decide +kernel
theorem dL_law_467 : decode cL_law 467 = .ok (.iaload, 1) := by decide +kernel
theorem dL_law_468 : decode cL_law 468 = .ok (.aload_n 0, 1) := by decide +kernel
theorem dL_law_469 : decode cL_law 469 = .ok (.iload 4, 2) := by decide +kernel
theorem dL_law_471 : decode cL_law 471 = .ok (.iconst 2, 1) := by decide +kernel
theorem dL_law_472 : decode cL_law 472 = .ok (.iadd, 1) := by decide +kernel
theorem dL_law_473 : decode cL_law 473 = .ok (.iaload, 1) := by decide +kernel
theorem dL_law_474 : decode cL_law 474 = .ok (.invokevirtual 45, 3) := by decide +kernel
theorem dL_law_477 : decode cL_law 477 = .ok (.aload_n 2, 1) := by decide +kernel
theorem dL_law_478 : decode cL_law 478 = .ok (.aload_n 0, 1) := by decide +kernel
theorem dL_law_479 : decode cL_law 479 = .ok (.iload 4, 2) := by decide +kernel
theorem dL_law_481 : decode cL_law 481 = .ok (.iconst 1, 1) := by decide +kernel
theorem dL_law_482 : decode cL_law 482 = .ok (.iadd, 1) := by decide +kernel
theorem dL_law_483 : decode cL_law 483 = .ok (.iaload, 1) := by decide +kernel
theorem dL_law_484 : decode cL_law 484 = .ok (.aload_n 0, 1) := by decide +kernel
theorem dL_law_485 : decode cL_law 485 = .ok (.iload 4, 2) := by decide +kernel
theorem dL_law_487 : decode cL_law 487 = .ok (.iconst 2, 1) := by decide +kernel
theorem dL_law_488 : decode cL_law 488 = .ok (.iadd, 1) := by decide +kernel
theorem dL_law_489 : decode cL_law 489 = .ok (.iaload, 1) := by decide +kernel
theorem dL_law_490 : decode cL_law 490 = .ok (.invokevirtual 48, 3) := by decide +kernel
theorem dL_law_493 : decode cL_law 493 = .ok (.if_icmp .eq 1110, 3) := by decide +kernel
theorem dL_law_496 : decode cL_law 496 = .ok (.iconst 0, 1) := by decide +kernel
theorem dL_law_497 : decode cL_law 497 = .ok (.ireturn, 1) := by decide +kernel
theorem dL_law_498 : decode cL_law 498 = .ok (.aload_n 1, 1) := by decide +kernel
theorem dL_law_499 : decode cL_law 499 = .ok (.aload_n 0, 1) := by decide +kernel
theorem dL_law_500 : decode cL_law 500 = .ok (.iload 4, 2) := by decide +kernel
theorem dL_law_502 : decode cL_law 502 = .ok (.iconst 1, 1) := by decide +kernel
theorem dL_law_503 : decode cL_law 503 = .ok (.iadd, 1) := by decide +kernel
theorem dL_law_504 : decode cL_law 504 = .ok (.iaload, 1) := by decide +kernel
theorem dL_law_505 : decode cL_law 505 = .ok (.aload_n 0, 1) := by decide +kernel
theorem dL_law_506 : decode cL_law 506 = .ok (.iload 4, 2) := by decide +kernel
theorem dL_law_508 : decode cL_law 508 = .ok (.iconst 2, 1) := by decide +kernel
theorem dL_law_509 : decode cL_law 509 = .ok (.iadd, 1) := by decide +kernel
theorem dL_law_510 : decode cL_law 510 = .ok (.iaload, 1) := by decide +kernel
theorem dL_law_511 : decode cL_law 511 = .ok (.invokevirtual 49, 3) := by decide +kernel
theorem dL_law_514 : decode cL_law 514 = .ok (.aload_n 2, 1) := by decide +kernel
theorem dL_law_515 : decode cL_law 515 = .ok (.aload_n 0, 1) := by decide +kernel
theorem dL_law_516 : decode cL_law 516 = .ok (.iload 4, 2) := by decide +kernel
theorem dL_law_518 : decode cL_law 518 = .ok (.iconst 1, 1) := by decide +kernel
theorem dL_law_519 : decode cL_law 519 = .ok (.iadd, 1) := by decide +kernel
theorem dL_law_520 : decode cL_law 520 = .ok (.iaload, 1) := by decide +kernel
theorem dL_law_521 : decode cL_law 521 = .ok (.aload_n 0, 1) := by decide +kernel
theorem dL_law_522 : decode cL_law 522 = .ok (.iload 4, 2) := by decide +kernel
theorem dL_law_524 : decode cL_law 524 = .ok (.iconst 2, 1) := by decide +kernel
theorem dL_law_525 : decode cL_law 525 = .ok (.iadd, 1) := by decide +kernel
theorem dL_law_526 : decode cL_law 526 = .ok (.iaload, 1) := by decide +kernel
theorem dL_law_527 : decode cL_law 527 = .ok (.invokevirtual 52, 3) := by decide +kernel
theorem dL_law_530 : decode cL_law 530 = .ok (.if_icmp .eq 1073, 3) := by decide +kernel
theorem dL_law_533 : decode cL_law 533 = .ok (.iconst 0, 1) := by decide +kernel
theorem dL_law_534 : decode cL_law 534 = .ok (.ireturn, 1) := by decide +kernel
theorem dL_law_535 : decode cL_law 535 = .ok (.aload_n 1, 1) := by decide +kernel
theorem dL_law_536 : decode cL_law 536 = .ok (.aload_n 0, 1) := by decide +kernel
theorem dL_law_537 : decode cL_law 537 = .ok (.iload 4, 2) := by decide +kernel
theorem dL_law_539 : decode cL_law 539 = .ok (.iconst 1, 1) := by decide +kernel
theorem dL_law_540 : decode cL_law 540 = .ok (.iadd, 1) := by decide +kernel
theorem dL_law_541 : decode cL_law 541 = .ok (.iaload, 1) := by decide +kernel
theorem dL_law_542 : decode cL_law 542 = .ok (.aload_n 0, 1) := by decide +kernel
theorem dL_law_543 : decode cL_law 543 = .ok (.iload 4, 2) := by decide +kernel
theorem dL_law_545 : decode cL_law 545 = .ok (.iconst 2, 1) := by decide +kernel
theorem dL_law_546 : decode cL_law 546 = .ok (.iadd, 1) := by decide +kernel
theorem dL_law_547 : decode cL_law 547 = .ok (.iaload, 1) := by decide +kernel
theorem dL_law_548 : decode cL_law 548 = .ok (.aload_n 0, 1) := by decide +kernel
theorem dL_law_549 : decode cL_law 549 = .ok (.iload 4, 2) := by decide +kernel
theorem dL_law_551 : decode cL_law 551 = .ok (.iconst 3, 1) := by decide +kernel
theorem dL_law_552 : decode cL_law 552 = .ok (.iadd, 1) := by decide +kernel
theorem dL_law_553 : decode cL_law 553 = .ok (.iaload, 1) := by decide +kernel
theorem dL_law_554 : decode cL_law 554 = .ok (.aload_n 0, 1) := by decide +kernel
theorem dL_law_555 : decode cL_law 555 = .ok (.iload 4, 2) := by decide +kernel
theorem dL_law_557 : decode cL_law 557 = .ok (.iconst 4, 1) := by decide +kernel
theorem dL_law_558 : decode cL_law 558 = .ok (.iadd, 1) := by decide +kernel
theorem dL_law_559 : decode cL_law 559 = .ok (.iaload, 1) := by decide +kernel
theorem dL_law_560 : decode cL_law 560 = .ok (.aload_n 0, 1) := by decide +kernel
theorem dL_law_561 : decode cL_law 561 = .ok (.iload 4, 2) := by decide +kernel
theorem dL_law_563 : decode cL_law 563 = .ok (.iconst 5, 1) := by decide +kernel
theorem dL_law_564 : decode cL_law 564 = .ok (.iadd, 1) := by decide +kernel
theorem dL_law_565 : decode cL_law 565 = .ok (.iaload, 1) := by decide +kernel
theorem dL_law_566 : decode cL_law 566 = .ok (.ifCond .eq 7, 3) := by decide +kernel
theorem dL_law_569 : decode cL_law 569 = .ok (.iconst 1, 1) := by decide +kernel
theorem dL_law_570 : decode cL_law 570 = .ok (.goto 4, 3) := by decide +kernel
theorem dL_law_573 : decode cL_law 573 = .ok (.iconst 0, 1) := by decide +kernel
theorem dL_law_574 : decode cL_law 574 = .ok (.invokevirtual 53, 3) := by decide +kernel
theorem dL_law_577 : decode cL_law 577 = .ok (.aload_n 2, 1) := by decide +kernel
theorem dL_law_578 : decode cL_law 578 = .ok (.aload_n 0, 1) := by decide +kernel
theorem dL_law_579 : decode cL_law 579 = .ok (.iload 4, 2) := by decide +kernel
theorem dL_law_581 : decode cL_law 581 = .ok (.iconst 1, 1) := by decide +kernel
theorem dL_law_582 : decode cL_law 582 = .ok (.iadd, 1) := by decide +kernel
theorem dL_law_583 : decode cL_law 583 = .ok (.iaload, 1) := by decide +kernel
theorem dL_law_584 : decode cL_law 584 = .ok (.aload_n 0, 1) := by decide +kernel
theorem dL_law_585 : decode cL_law 585 = .ok (.iload 4, 2) := by decide +kernel
theorem dL_law_587 : decode cL_law 587 = .ok (.iconst 2, 1) := by decide +kernel
theorem dL_law_588 : decode cL_law 588 = .ok (.iadd, 1) := by decide +kernel
theorem dL_law_589 : decode cL_law 589 = .ok (.iaload, 1) := by decide +kernel
theorem dL_law_590 : decode cL_law 590 = .ok (.aload_n 0, 1) := by decide +kernel
theorem dL_law_591 : decode cL_law 591 = .ok (.iload 4, 2) := by decide +kernel
theorem dL_law_593 : decode cL_law 593 = .ok (.iconst 3, 1) := by decide +kernel
theorem dL_law_594 : decode cL_law 594 = .ok (.iadd, 1) := by decide +kernel
theorem dL_law_595 : decode cL_law 595 = .ok (.iaload, 1) := by decide +kernel
theorem dL_law_596 : decode cL_law 596 = .ok (.aload_n 0, 1) := by decide +kernel
theorem dL_law_597 : decode cL_law 597 = .ok (.iload 4, 2) := by decide +kernel
theorem dL_law_599 : decode cL_law 599 = .ok (.iconst 4, 1) := by decide +kernel
theorem dL_law_600 : decode cL_law 600 = .ok (.iadd, 1) := by decide +kernel
theorem dL_law_601 : decode cL_law 601 = .ok (.iaload, 1) := by decide +kernel
theorem dL_law_602 : decode cL_law 602 = .ok (.aload_n 0, 1) := by decide +kernel
theorem dL_law_603 : decode cL_law 603 = .ok (.iload 4, 2) := by decide +kernel
theorem dL_law_605 : decode cL_law 605 = .ok (.iconst 5, 1) := by decide +kernel
theorem dL_law_606 : decode cL_law 606 = .ok (.iadd, 1) := by decide +kernel
theorem dL_law_607 : decode cL_law 607 = .ok (.iaload, 1) := by decide +kernel
theorem dL_law_608 : decode cL_law 608 = .ok (.ifCond .eq 7, 3) := by decide +kernel
theorem dL_law_611 : decode cL_law 611 = .ok (.iconst 1, 1) := by decide +kernel
theorem dL_law_612 : decode cL_law 612 = .ok (.goto 4, 3) := by decide +kernel
theorem dL_law_615 : decode cL_law 615 = .ok (.iconst 0, 1) := by decide +kernel
theorem dL_law_616 : decode cL_law 616 = .ok (.invokevirtual 57, 3) := by decide +kernel
theorem dL_law_619 : decode cL_law 619 = .ok (.if_icmp .eq 984, 3) := by decide +kernel
theorem dL_law_622 : decode cL_law 622 = .ok (.iconst 0, 1) := by decide +kernel
theorem dL_law_623 : decode cL_law 623 = .ok (.ireturn, 1) := by decide +kernel
theorem dL_law_624 : decode cL_law 624 = .ok (.aload_n 1, 1) := by decide +kernel
theorem dL_law_625 : decode cL_law 625 = .ok (.aload_n 0, 1) := by decide +kernel
theorem dL_law_626 : decode cL_law 626 = .ok (.iload 4, 2) := by decide +kernel
theorem dL_law_628 : decode cL_law 628 = .ok (.iconst 1, 1) := by decide +kernel
theorem dL_law_629 : decode cL_law 629 = .ok (.iadd, 1) := by decide +kernel
theorem dL_law_630 : decode cL_law 630 = .ok (.iaload, 1) := by decide +kernel
theorem dL_law_631 : decode cL_law 631 = .ok (.aload_n 0, 1) := by decide +kernel
theorem dL_law_632 : decode cL_law 632 = .ok (.iload 4, 2) := by decide +kernel
theorem dL_law_634 : decode cL_law 634 = .ok (.iconst 2, 1) := by decide +kernel
theorem dL_law_635 : decode cL_law 635 = .ok (.iadd, 1) := by decide +kernel
theorem dL_law_636 : decode cL_law 636 = .ok (.iaload, 1) := by decide +kernel
theorem dL_law_637 : decode cL_law 637 = .ok (.aload_n 0, 1) := by decide +kernel
theorem dL_law_638 : decode cL_law 638 = .ok (.iload 4, 2) := by decide +kernel
theorem dL_law_640 : decode cL_law 640 = .ok (.iconst 3, 1) := by decide +kernel
theorem dL_law_641 : decode cL_law 641 = .ok (.iadd, 1) := by decide +kernel
theorem dL_law_642 : decode cL_law 642 = .ok (.iaload, 1) := by decide +kernel
theorem dL_law_643 : decode cL_law 643 = .ok (.invokevirtual 58, 3) := by decide +kernel
theorem dL_law_646 : decode cL_law 646 = .ok (.aload_n 2, 1) := by decide +kernel
theorem dL_law_647 : decode cL_law 647 = .ok (.aload_n 0, 1) := by decide +kernel
theorem dL_law_648 : decode cL_law 648 = .ok (.iload 4, 2) := by decide +kernel
theorem dL_law_650 : decode cL_law 650 = .ok (.iconst 1, 1) := by decide +kernel
theorem dL_law_651 : decode cL_law 651 = .ok (.iadd, 1) := by decide +kernel
theorem dL_law_652 : decode cL_law 652 = .ok (.iaload, 1) := by decide +kernel
theorem dL_law_653 : decode cL_law 653 = .ok (.aload_n 0, 1) := by decide +kernel
theorem dL_law_654 : decode cL_law 654 = .ok (.iload 4, 2) := by decide +kernel
theorem dL_law_656 : decode cL_law 656 = .ok (.iconst 2, 1) := by decide +kernel
theorem dL_law_657 : decode cL_law 657 = .ok (.iadd, 1) := by decide +kernel
theorem dL_law_658 : decode cL_law 658 = .ok (.iaload, 1) := by decide +kernel
theorem dL_law_659 : decode cL_law 659 = .ok (.aload_n 0, 1) := by decide +kernel
theorem dL_law_660 : decode cL_law 660 = .ok (.iload 4, 2) := by decide +kernel
theorem dL_law_662 : decode cL_law 662 = .ok (.iconst 3, 1) := by decide +kernel
theorem dL_law_663 : decode cL_law 663 = .ok (.iadd, 1) := by decide +kernel
theorem dL_law_664 : decode cL_law 664 = .ok (.iaload, 1) := by decide +kernel
theorem dL_law_665 : decode cL_law 665 = .ok (.invokevirtual 62, 3) := by decide +kernel
theorem dL_law_668 : decode cL_law 668 = .ok (.if_icmp .eq 935, 3) := by decide +kernel
theorem dL_law_671 : decode cL_law 671 = .ok (.iconst 0, 1) := by decide +kernel
theorem dL_law_672 : decode cL_law 672 = .ok (.ireturn, 1) := by decide +kernel
theorem dL_law_673 : decode cL_law 673 = .ok (.aload_n 1, 1) := by decide +kernel
theorem dL_law_674 : decode cL_law 674 = .ok (.aload_n 0, 1) := by decide +kernel
theorem dL_law_675 : decode cL_law 675 = .ok (.iload 4, 2) := by decide +kernel
theorem dL_law_677 : decode cL_law 677 = .ok (.iconst 1, 1) := by decide +kernel
theorem dL_law_678 : decode cL_law 678 = .ok (.iadd, 1) := by decide +kernel
theorem dL_law_679 : decode cL_law 679 = .ok (.iaload, 1) := by decide +kernel
theorem dL_law_680 : decode cL_law 680 = .ok (.aload_n 0, 1) := by decide +kernel
theorem dL_law_681 : decode cL_law 681 = .ok (.iload 4, 2) := by decide +kernel
theorem dL_law_683 : decode cL_law 683 = .ok (.iconst 2, 1) := by decide +kernel
theorem dL_law_684 : decode cL_law 684 = .ok (.iadd, 1) := by decide +kernel
theorem dL_law_685 : decode cL_law 685 = .ok (.iaload, 1) := by decide +kernel
theorem dL_law_686 : decode cL_law 686 = .ok (.invokevirtual 63, 3) := by decide +kernel
theorem dL_law_689 : decode cL_law 689 = .ok (.aload_n 2, 1) := by decide +kernel
theorem dL_law_690 : decode cL_law 690 = .ok (.aload_n 0, 1) := by decide +kernel
theorem dL_law_691 : decode cL_law 691 = .ok (.iload 4, 2) := by decide +kernel
theorem dL_law_693 : decode cL_law 693 = .ok (.iconst 1, 1) := by decide +kernel
theorem dL_law_694 : decode cL_law 694 = .ok (.iadd, 1) := by decide +kernel
theorem dL_law_695 : decode cL_law 695 = .ok (.iaload, 1) := by decide +kernel
theorem dL_law_696 : decode cL_law 696 = .ok (.aload_n 0, 1) := by decide +kernel
theorem dL_law_697 : decode cL_law 697 = .ok (.iload 4, 2) := by decide +kernel
theorem dL_law_699 : decode cL_law 699 = .ok (.iconst 2, 1) := by decide +kernel
theorem dL_law_700 : decode cL_law 700 = .ok (.iadd, 1) := by decide +kernel
theorem dL_law_701 : decode cL_law 701 = .ok (.iaload, 1) := by decide +kernel
theorem dL_law_702 : decode cL_law 702 = .ok (.invokevirtual 66, 3) := by decide +kernel
theorem dL_law_705 : decode cL_law 705 = .ok (.if_icmp .eq 898, 3) := by decide +kernel
theorem dL_law_708 : decode cL_law 708 = .ok (.iconst 0, 1) := by decide +kernel
theorem dL_law_709 : decode cL_law 709 = .ok (.ireturn, 1) := by decide +kernel
theorem dL_law_710 : decode cL_law 710 = .ok (.aload_n 1, 1) := by decide +kernel
theorem dL_law_711 : decode cL_law 711 = .ok (.aload_n 0, 1) := by decide +kernel
theorem dL_law_712 : decode cL_law 712 = .ok (.iload 4, 2) := by decide +kernel
theorem dL_law_714 : decode cL_law 714 = .ok (.iconst 1, 1) := by decide +kernel
theorem dL_law_715 : decode cL_law 715 = .ok (.iadd, 1) := by decide +kernel
theorem dL_law_716 : decode cL_law 716 = .ok (.iaload, 1) := by decide +kernel
theorem dL_law_717 : decode cL_law 717 = .ok (.aload_n 0, 1) := by decide +kernel
theorem dL_law_718 : decode cL_law 718 = .ok (.iload 4, 2) := by decide +kernel
theorem dL_law_720 : decode cL_law 720 = .ok (.iconst 2, 1) := by decide +kernel
theorem dL_law_721 : decode cL_law 721 = .ok (.iadd, 1) := by decide +kernel
theorem dL_law_722 : decode cL_law 722 = .ok (.iaload, 1) := by decide +kernel
theorem dL_law_723 : decode cL_law 723 = .ok (.aload_n 0, 1) := by decide +kernel
theorem dL_law_724 : decode cL_law 724 = .ok (.iload 4, 2) := by decide +kernel
theorem dL_law_726 : decode cL_law 726 = .ok (.iconst 3, 1) := by decide +kernel
theorem dL_law_727 : decode cL_law 727 = .ok (.iadd, 1) := by decide +kernel
theorem dL_law_728 : decode cL_law 728 = .ok (.iaload, 1) := by decide +kernel
theorem dL_law_729 : decode cL_law 729 = .ok (.invokevirtual 67, 3) := by decide +kernel
theorem dL_law_732 : decode cL_law 732 = .ok (.aload_n 2, 1) := by decide +kernel
theorem dL_law_733 : decode cL_law 733 = .ok (.aload_n 0, 1) := by decide +kernel
theorem dL_law_734 : decode cL_law 734 = .ok (.iload 4, 2) := by decide +kernel
theorem dL_law_736 : decode cL_law 736 = .ok (.iconst 1, 1) := by decide +kernel
theorem dL_law_737 : decode cL_law 737 = .ok (.iadd, 1) := by decide +kernel
theorem dL_law_738 : decode cL_law 738 = .ok (.iaload, 1) := by decide +kernel
theorem dL_law_739 : decode cL_law 739 = .ok (.aload_n 0, 1) := by decide +kernel
theorem dL_law_740 : decode cL_law 740 = .ok (.iload 4, 2) := by decide +kernel
theorem dL_law_742 : decode cL_law 742 = .ok (.iconst 2, 1) := by decide +kernel
theorem dL_law_743 : decode cL_law 743 = .ok (.iadd, 1) := by decide +kernel
theorem dL_law_744 : decode cL_law 744 = .ok (.iaload, 1) := by decide +kernel
theorem dL_law_745 : decode cL_law 745 = .ok (.aload_n 0, 1) := by decide +kernel
theorem dL_law_746 : decode cL_law 746 = .ok (.iload 4, 2) := by decide +kernel
theorem dL_law_748 : decode cL_law 748 = .ok (.iconst 3, 1) := by decide +kernel
theorem dL_law_749 : decode cL_law 749 = .ok (.iadd, 1) := by decide +kernel
theorem dL_law_750 : decode cL_law 750 = .ok (.iaload, 1) := by decide +kernel
theorem dL_law_751 : decode cL_law 751 = .ok (.invokevirtual 70, 3) := by decide +kernel
theorem dL_law_754 : decode cL_law 754 = .ok (.if_icmp .eq 849, 3) := by decide +kernel
theorem dL_law_757 : decode cL_law 757 = .ok (.iconst 0, 1) := by decide +kernel
theorem dL_law_758 : decode cL_law 758 = .ok (.ireturn, 1) := by decide +kernel
theorem dL_law_759 : decode cL_law 759 = .ok (.aload_n 1, 1) := by decide +kernel
theorem dL_law_760 : decode cL_law 760 = .ok (.aload_n 0, 1) := by decide +kernel
theorem dL_law_761 : decode cL_law 761 = .ok (.iload 4, 2) := by decide +kernel
theorem dL_law_763 : decode cL_law 763 = .ok (.iconst 1, 1) := by decide +kernel
theorem dL_law_764 : decode cL_law 764 = .ok (.iadd, 1) := by decide +kernel
theorem dL_law_765 : decode cL_law 765 = .ok (.iaload, 1) := by decide +kernel
theorem dL_law_766 : decode cL_law 766 = .ok (.aload_n 0, 1) := by decide +kernel
theorem dL_law_767 : decode cL_law 767 = .ok (.iload 4, 2) := by decide +kernel
theorem dL_law_769 : decode cL_law 769 = .ok (.iconst 2, 1) := by decide +kernel
theorem dL_law_770 : decode cL_law 770 = .ok (.iadd, 1) := by decide +kernel
theorem dL_law_771 : decode cL_law 771 = .ok (.iaload, 1) := by decide +kernel
theorem dL_law_772 : decode cL_law 772 = .ok (.aload_n 0, 1) := by decide +kernel
theorem dL_law_773 : decode cL_law 773 = .ok (.iload 4, 2) := by decide +kernel
theorem dL_law_775 : decode cL_law 775 = .ok (.iconst 3, 1) := by decide +kernel
theorem dL_law_776 : decode cL_law 776 = .ok (.iadd, 1) := by decide +kernel
theorem dL_law_777 : decode cL_law 777 = .ok (.iaload, 1) := by decide +kernel
theorem dL_law_778 : decode cL_law 778 = .ok (.invokevirtual 71, 3) := by decide +kernel
theorem dL_law_781 : decode cL_law 781 = .ok (.aload_n 2, 1) := by decide +kernel
theorem dL_law_782 : decode cL_law 782 = .ok (.aload_n 0, 1) := by decide +kernel
theorem dL_law_783 : decode cL_law 783 = .ok (.iload 4, 2) := by decide +kernel
theorem dL_law_785 : decode cL_law 785 = .ok (.iconst 1, 1) := by decide +kernel
theorem dL_law_786 : decode cL_law 786 = .ok (.iadd, 1) := by decide +kernel
theorem dL_law_787 : decode cL_law 787 = .ok (.iaload, 1) := by decide +kernel
theorem dL_law_788 : decode cL_law 788 = .ok (.aload_n 0, 1) := by decide +kernel
theorem dL_law_789 : decode cL_law 789 = .ok (.iload 4, 2) := by decide +kernel
theorem dL_law_791 : decode cL_law 791 = .ok (.iconst 2, 1) := by decide +kernel
theorem dL_law_792 : decode cL_law 792 = .ok (.iadd, 1) := by decide +kernel
theorem dL_law_793 : decode cL_law 793 = .ok (.iaload, 1) := by decide +kernel
theorem dL_law_794 : decode cL_law 794 = .ok (.aload_n 0, 1) := by decide +kernel
theorem dL_law_795 : decode cL_law 795 = .ok (.iload 4, 2) := by decide +kernel
theorem dL_law_797 : decode cL_law 797 = .ok (.iconst 3, 1) := by decide +kernel
theorem dL_law_798 : decode cL_law 798 = .ok (.iadd, 1) := by decide +kernel
theorem dL_law_799 : decode cL_law 799 = .ok (.iaload, 1) := by decide +kernel
theorem dL_law_800 : decode cL_law 800 = .ok (.invokevirtual 74, 3) := by decide +kernel
theorem dL_law_803 : decode cL_law 803 = .ok (.if_icmp .eq 800, 3) := by decide +kernel
theorem dL_law_806 : decode cL_law 806 = .ok (.iconst 0, 1) := by decide +kernel
theorem dL_law_807 : decode cL_law 807 = .ok (.ireturn, 1) := by decide +kernel
theorem dL_law_808 : decode cL_law 808 = .ok (.aload_n 1, 1) := by decide +kernel
theorem dL_law_809 : decode cL_law 809 = .ok (.aload_n 0, 1) := by decide +kernel
theorem dL_law_810 : decode cL_law 810 = .ok (.iload 4, 2) := by decide +kernel
theorem dL_law_812 : decode cL_law 812 = .ok (.iconst 1, 1) := by decide +kernel
theorem dL_law_813 : decode cL_law 813 = .ok (.iadd, 1) := by decide +kernel
theorem dL_law_814 : decode cL_law 814 = .ok (.iaload, 1) := by decide +kernel
theorem dL_law_815 : decode cL_law 815 = .ok (.aload_n 0, 1) := by decide +kernel
theorem dL_law_816 : decode cL_law 816 = .ok (.iload 4, 2) := by decide +kernel
theorem dL_law_818 : decode cL_law 818 = .ok (.iconst 2, 1) := by decide +kernel
theorem dL_law_819 : decode cL_law 819 = .ok (.iadd, 1) := by decide +kernel
theorem dL_law_820 : decode cL_law 820 = .ok (.iaload, 1) := by decide +kernel
theorem dL_law_821 : decode cL_law 821 = .ok (.aload_n 0, 1) := by decide +kernel
theorem dL_law_822 : decode cL_law 822 = .ok (.iload 4, 2) := by decide +kernel
theorem dL_law_824 : decode cL_law 824 = .ok (.iconst 3, 1) := by decide +kernel
theorem dL_law_825 : decode cL_law 825 = .ok (.iadd, 1) := by decide +kernel
theorem dL_law_826 : decode cL_law 826 = .ok (.iaload, 1) := by decide +kernel
theorem dL_law_827 : decode cL_law 827 = .ok (.aload_n 0, 1) := by decide +kernel
theorem dL_law_828 : decode cL_law 828 = .ok (.iload 4, 2) := by decide +kernel
theorem dL_law_830 : decode cL_law 830 = .ok (.iconst 4, 1) := by decide +kernel
theorem dL_law_831 : decode cL_law 831 = .ok (.iadd, 1) := by decide +kernel
theorem dL_law_832 : decode cL_law 832 = .ok (.iaload, 1) := by decide +kernel
theorem dL_law_833 : decode cL_law 833 = .ok (.ifCond .eq 7, 3) := by decide +kernel
theorem dL_law_836 : decode cL_law 836 = .ok (.iconst 1, 1) := by decide +kernel
theorem dL_law_837 : decode cL_law 837 = .ok (.goto 4, 3) := by decide +kernel
theorem dL_law_840 : decode cL_law 840 = .ok (.iconst 0, 1) := by decide +kernel
theorem dL_law_841 : decode cL_law 841 = .ok (.invokevirtual 75, 3) := by decide +kernel
theorem dL_law_844 : decode cL_law 844 = .ok (.aload_n 2, 1) := by decide +kernel
theorem dL_law_845 : decode cL_law 845 = .ok (.aload_n 0, 1) := by decide +kernel
theorem dL_law_846 : decode cL_law 846 = .ok (.iload 4, 2) := by decide +kernel
theorem dL_law_848 : decode cL_law 848 = .ok (.iconst 1, 1) := by decide +kernel
theorem dL_law_849 : decode cL_law 849 = .ok (.iadd, 1) := by decide +kernel
theorem dL_law_850 : decode cL_law 850 = .ok (.iaload, 1) := by decide +kernel
theorem dL_law_851 : decode cL_law 851 = .ok (.aload_n 0, 1) := by decide +kernel
theorem dL_law_852 : decode cL_law 852 = .ok (.iload 4, 2) := by decide +kernel
theorem dL_law_854 : decode cL_law 854 = .ok (.iconst 2, 1) := by decide +kernel
theorem dL_law_855 : decode cL_law 855 = .ok (.iadd, 1) := by decide +kernel
theorem dL_law_856 : decode cL_law 856 = .ok (.iaload, 1) := by decide +kernel
theorem dL_law_857 : decode cL_law 857 = .ok (.aload_n 0, 1) := by decide +kernel
theorem dL_law_858 : decode cL_law 858 = .ok (.iload 4, 2) := by decide +kernel
theorem dL_law_860 : decode cL_law 860 = .ok (.iconst 3, 1) := by decide +kernel
theorem dL_law_861 : decode cL_law 861 = .ok (.iadd, 1) := by decide +kernel
theorem dL_law_862 : decode cL_law 862 = .ok (.iaload, 1) := by decide +kernel
theorem dL_law_863 : decode cL_law 863 = .ok (.aload_n 0, 1) := by decide +kernel
theorem dL_law_864 : decode cL_law 864 = .ok (.iload 4, 2) := by decide +kernel
theorem dL_law_866 : decode cL_law 866 = .ok (.iconst 4, 1) := by decide +kernel
theorem dL_law_867 : decode cL_law 867 = .ok (.iadd, 1) := by decide +kernel
theorem dL_law_868 : decode cL_law 868 = .ok (.iaload, 1) := by decide +kernel
theorem dL_law_869 : decode cL_law 869 = .ok (.ifCond .eq 7, 3) := by decide +kernel
theorem dL_law_872 : decode cL_law 872 = .ok (.iconst 1, 1) := by decide +kernel
theorem dL_law_873 : decode cL_law 873 = .ok (.goto 4, 3) := by decide +kernel
theorem dL_law_876 : decode cL_law 876 = .ok (.iconst 0, 1) := by decide +kernel
theorem dL_law_877 : decode cL_law 877 = .ok (.invokevirtual 78, 3) := by decide +kernel
theorem dL_law_880 : decode cL_law 880 = .ok (.if_icmp .eq 723, 3) := by decide +kernel
theorem dL_law_883 : decode cL_law 883 = .ok (.iconst 0, 1) := by decide +kernel
theorem dL_law_884 : decode cL_law 884 = .ok (.ireturn, 1) := by decide +kernel
theorem dL_law_885 : decode cL_law 885 = .ok (.aload_n 1, 1) := by decide +kernel
theorem dL_law_886 : decode cL_law 886 = .ok (.aload_n 0, 1) := by decide +kernel
theorem dL_law_887 : decode cL_law 887 = .ok (.iload 4, 2) := by decide +kernel
theorem dL_law_889 : decode cL_law 889 = .ok (.iconst 1, 1) := by decide +kernel
theorem dL_law_890 : decode cL_law 890 = .ok (.iadd, 1) := by decide +kernel
theorem dL_law_891 : decode cL_law 891 = .ok (.iaload, 1) := by decide +kernel
theorem dL_law_892 : decode cL_law 892 = .ok (.invokevirtual 79, 3) := by decide +kernel
theorem dL_law_895 : decode cL_law 895 = .ok (.aload_n 2, 1) := by decide +kernel
theorem dL_law_896 : decode cL_law 896 = .ok (.aload_n 0, 1) := by decide +kernel
theorem dL_law_897 : decode cL_law 897 = .ok (.iload 4, 2) := by decide +kernel
theorem dL_law_899 : decode cL_law 899 = .ok (.iconst 1, 1) := by decide +kernel
theorem dL_law_900 : decode cL_law 900 = .ok (.iadd, 1) := by decide +kernel
theorem dL_law_901 : decode cL_law 901 = .ok (.iaload, 1) := by decide +kernel
theorem dL_law_902 : decode cL_law 902 = .ok (.invokevirtual 83, 3) := by decide +kernel
theorem dL_law_905 : decode cL_law 905 = .ok (.if_icmp .eq 698, 3) := by decide +kernel
theorem dL_law_908 : decode cL_law 908 = .ok (.iconst 0, 1) := by decide +kernel
theorem dL_law_909 : decode cL_law 909 = .ok (.ireturn, 1) := by decide +kernel
theorem dL_law_910 : decode cL_law 910 = .ok (.aload_n 1, 1) := by decide +kernel
theorem dL_law_911 : decode cL_law 911 = .ok (.aload_n 0, 1) := by decide +kernel
theorem dL_law_912 : decode cL_law 912 = .ok (.iload 4, 2) := by decide +kernel
theorem dL_law_914 : decode cL_law 914 = .ok (.iconst 1, 1) := by decide +kernel
theorem dL_law_915 : decode cL_law 915 = .ok (.iadd, 1) := by decide +kernel
theorem dL_law_916 : decode cL_law 916 = .ok (.iaload, 1) := by decide +kernel
theorem dL_law_917 : decode cL_law 917 = .ok (.aload_n 0, 1) := by decide +kernel
theorem dL_law_918 : decode cL_law 918 = .ok (.iload 4, 2) := by decide +kernel
theorem dL_law_920 : decode cL_law 920 = .ok (.iconst 2, 1) := by decide +kernel
theorem dL_law_921 : decode cL_law 921 = .ok (.iadd, 1) := by decide +kernel
theorem dL_law_922 : decode cL_law 922 = .ok (.iaload, 1) := by decide +kernel
theorem dL_law_923 : decode cL_law 923 = .ok (.aload_n 0, 1) := by decide +kernel
theorem dL_law_924 : decode cL_law 924 = .ok (.iload 4, 2) := by decide +kernel
theorem dL_law_926 : decode cL_law 926 = .ok (.iconst 3, 1) := by decide +kernel
theorem dL_law_927 : decode cL_law 927 = .ok (.iadd, 1) := by decide +kernel
theorem dL_law_928 : decode cL_law 928 = .ok (.iaload, 1) := by decide +kernel
theorem dL_law_929 : decode cL_law 929 = .ok (.aload_n 0, 1) := by decide +kernel
theorem dL_law_930 : decode cL_law 930 = .ok (.iload 4, 2) := by decide +kernel
theorem dL_law_932 : decode cL_law 932 = .ok (.iconst 4, 1) := by decide +kernel
theorem dL_law_933 : decode cL_law 933 = .ok (.iadd, 1) := by decide +kernel
theorem dL_law_934 : decode cL_law 934 = .ok (.iaload, 1) := by decide +kernel
theorem dL_law_935 : decode cL_law 935 = .ok (.invokevirtual 84, 3) := by decide +kernel
theorem dL_law_938 : decode cL_law 938 = .ok (.aload_n 2, 1) := by decide +kernel
theorem dL_law_939 : decode cL_law 939 = .ok (.aload_n 0, 1) := by decide +kernel
theorem dL_law_940 : decode cL_law 940 = .ok (.iload 4, 2) := by decide +kernel
theorem dL_law_942 : decode cL_law 942 = .ok (.iconst 1, 1) := by decide +kernel
theorem dL_law_943 : decode cL_law 943 = .ok (.iadd, 1) := by decide +kernel
theorem dL_law_944 : decode cL_law 944 = .ok (.iaload, 1) := by decide +kernel
theorem dL_law_945 : decode cL_law 945 = .ok (.aload_n 0, 1) := by decide +kernel
theorem dL_law_946 : decode cL_law 946 = .ok (.iload 4, 2) := by decide +kernel
theorem dL_law_948 : decode cL_law 948 = .ok (.iconst 2, 1) := by decide +kernel
theorem dL_law_949 : decode cL_law 949 = .ok (.iadd, 1) := by decide +kernel
theorem dL_law_950 : decode cL_law 950 = .ok (.iaload, 1) := by decide +kernel
theorem dL_law_951 : decode cL_law 951 = .ok (.aload_n 0, 1) := by decide +kernel
theorem dL_law_952 : decode cL_law 952 = .ok (.iload 4, 2) := by decide +kernel
theorem dL_law_954 : decode cL_law 954 = .ok (.iconst 3, 1) := by decide +kernel
theorem dL_law_955 : decode cL_law 955 = .ok (.iadd, 1) := by decide +kernel
theorem dL_law_956 : decode cL_law 956 = .ok (.iaload, 1) := by decide +kernel
theorem dL_law_957 : decode cL_law 957 = .ok (.aload_n 0, 1) := by decide +kernel
theorem dL_law_958 : decode cL_law 958 = .ok (.iload 4, 2) := by decide +kernel
theorem dL_law_960 : decode cL_law 960 = .ok (.iconst 4, 1) := by decide +kernel
theorem dL_law_961 : decode cL_law 961 = .ok (.iadd, 1) := by decide +kernel
theorem dL_law_962 : decode cL_law 962 = .ok (.iaload, 1) := by decide +kernel
theorem dL_law_963 : decode cL_law 963 = .ok (.invokevirtual 87, 3) := by decide +kernel
theorem dL_law_966 : decode cL_law 966 = .ok (.if_icmp .eq 637, 3) := by decide +kernel
theorem dL_law_969 : decode cL_law 969 = .ok (.iconst 0, 1) := by decide +kernel
theorem dL_law_970 : decode cL_law 970 = .ok (.ireturn, 1) := by decide +kernel
theorem dL_law_971 : decode cL_law 971 = .ok (.aload_n 1, 1) := by decide +kernel
theorem dL_law_972 : decode cL_law 972 = .ok (.aload_n 0, 1) := by decide +kernel
theorem dL_law_973 : decode cL_law 973 = .ok (.iload 4, 2) := by decide +kernel
theorem dL_law_975 : decode cL_law 975 = .ok (.iconst 1, 1) := by decide +kernel
theorem dL_law_976 : decode cL_law 976 = .ok (.iadd, 1) := by decide +kernel
theorem dL_law_977 : decode cL_law 977 = .ok (.iaload, 1) := by decide +kernel
theorem dL_law_978 : decode cL_law 978 = .ok (.aload_n 0, 1) := by decide +kernel
theorem dL_law_979 : decode cL_law 979 = .ok (.iload 4, 2) := by decide +kernel
theorem dL_law_981 : decode cL_law 981 = .ok (.iconst 2, 1) := by decide +kernel
theorem dL_law_982 : decode cL_law 982 = .ok (.iadd, 1) := by decide +kernel
theorem dL_law_983 : decode cL_law 983 = .ok (.iaload, 1) := by decide +kernel
theorem dL_law_984 : decode cL_law 984 = .ok (.aload_n 0, 1) := by decide +kernel
theorem dL_law_985 : decode cL_law 985 = .ok (.iload 4, 2) := by decide +kernel
theorem dL_law_987 : decode cL_law 987 = .ok (.iconst 3, 1) := by decide +kernel
theorem dL_law_988 : decode cL_law 988 = .ok (.iadd, 1) := by decide +kernel
theorem dL_law_989 : decode cL_law 989 = .ok (.iaload, 1) := by decide +kernel
theorem dL_law_990 : decode cL_law 990 = .ok (.aload_n 0, 1) := by decide +kernel
theorem dL_law_991 : decode cL_law 991 = .ok (.iload 4, 2) := by decide +kernel
theorem dL_law_993 : decode cL_law 993 = .ok (.iconst 4, 1) := by decide +kernel
theorem dL_law_994 : decode cL_law 994 = .ok (.iadd, 1) := by decide +kernel
theorem dL_law_995 : decode cL_law 995 = .ok (.iaload, 1) := by decide +kernel
theorem dL_law_996 : decode cL_law 996 = .ok (.aload_n 0, 1) := by decide +kernel
theorem dL_law_997 : decode cL_law 997 = .ok (.iload 4, 2) := by decide +kernel
theorem dL_law_999 : decode cL_law 999 = .ok (.iconst 5, 1) := by decide +kernel
theorem dL_law_1000 : decode cL_law 1000 = .ok (.iadd, 1) := by decide +kernel
theorem dL_law_1001 : decode cL_law 1001 = .ok (.iaload, 1) := by decide +kernel
theorem dL_law_1002 : decode cL_law 1002 = .ok (.invokevirtual 88, 3) := by decide +kernel
theorem dL_law_1005 : decode cL_law 1005 = .ok (.aload_n 2, 1) := by decide +kernel
theorem dL_law_1006 : decode cL_law 1006 = .ok (.aload_n 0, 1) := by decide +kernel
theorem dL_law_1007 : decode cL_law 1007 = .ok (.iload 4, 2) := by decide +kernel
theorem dL_law_1009 : decode cL_law 1009 = .ok (.iconst 1, 1) := by decide +kernel
theorem dL_law_1010 : decode cL_law 1010 = .ok (.iadd, 1) := by decide +kernel
theorem dL_law_1011 : decode cL_law 1011 = .ok (.iaload, 1) := by decide +kernel
theorem dL_law_1012 : decode cL_law 1012 = .ok (.aload_n 0, 1) := by decide +kernel
theorem dL_law_1013 : decode cL_law 1013 = .ok (.iload 4, 2) := by decide +kernel
theorem dL_law_1015 : decode cL_law 1015 = .ok (.iconst 2, 1) := by decide +kernel
theorem dL_law_1016 : decode cL_law 1016 = .ok (.iadd, 1) := by decide +kernel
theorem dL_law_1017 : decode cL_law 1017 = .ok (.iaload, 1) := by decide +kernel
theorem dL_law_1018 : decode cL_law 1018 = .ok (.aload_n 0, 1) := by decide +kernel
theorem dL_law_1019 : decode cL_law 1019 = .ok (.iload 4, 2) := by decide +kernel
theorem dL_law_1021 : decode cL_law 1021 = .ok (.iconst 3, 1) := by decide +kernel
theorem dL_law_1022 : decode cL_law 1022 = .ok (.iadd, 1) := by decide +kernel
theorem dL_law_1023 : decode cL_law 1023 = .ok (.iaload, 1) := by decide +kernel
theorem dL_law_1024 : decode cL_law 1024 = .ok (.aload_n 0, 1) := by decide +kernel
theorem dL_law_1025 : decode cL_law 1025 = .ok (.iload 4, 2) := by decide +kernel
theorem dL_law_1027 : decode cL_law 1027 = .ok (.iconst 4, 1) := by decide +kernel
theorem dL_law_1028 : decode cL_law 1028 = .ok (.iadd, 1) := by decide +kernel
theorem dL_law_1029 : decode cL_law 1029 = .ok (.iaload, 1) := by decide +kernel
theorem dL_law_1030 : decode cL_law 1030 = .ok (.aload_n 0, 1) := by decide +kernel
theorem dL_law_1031 : decode cL_law 1031 = .ok (.iload 4, 2) := by decide +kernel
theorem dL_law_1033 : decode cL_law 1033 = .ok (.iconst 5, 1) := by decide +kernel
theorem dL_law_1034 : decode cL_law 1034 = .ok (.iadd, 1) := by decide +kernel
theorem dL_law_1035 : decode cL_law 1035 = .ok (.iaload, 1) := by decide +kernel
theorem dL_law_1036 : decode cL_law 1036 = .ok (.invokevirtual 92, 3) := by decide +kernel
theorem dL_law_1039 : decode cL_law 1039 = .ok (.if_icmp .eq 564, 3) := by decide +kernel
theorem dL_law_1042 : decode cL_law 1042 = .ok (.iconst 0, 1) := by decide +kernel
theorem dL_law_1043 : decode cL_law 1043 = .ok (.ireturn, 1) := by decide +kernel
theorem dL_law_1044 : decode cL_law 1044 = .ok (.aload_n 1, 1) := by decide +kernel
theorem dL_law_1045 : decode cL_law 1045 = .ok (.aload_n 0, 1) := by decide +kernel
theorem dL_law_1046 : decode cL_law 1046 = .ok (.iload 4, 2) := by decide +kernel
theorem dL_law_1048 : decode cL_law 1048 = .ok (.iconst 1, 1) := by decide +kernel
theorem dL_law_1049 : decode cL_law 1049 = .ok (.iadd, 1) := by decide +kernel
theorem dL_law_1050 : decode cL_law 1050 = .ok (.iaload, 1) := by decide +kernel
theorem dL_law_1051 : decode cL_law 1051 = .ok (.aload_n 0, 1) := by decide +kernel
theorem dL_law_1052 : decode cL_law 1052 = .ok (.iload 4, 2) := by decide +kernel
theorem dL_law_1054 : decode cL_law 1054 = .ok (.iconst 2, 1) := by decide +kernel
theorem dL_law_1055 : decode cL_law 1055 = .ok (.iadd, 1) := by decide +kernel
theorem dL_law_1056 : decode cL_law 1056 = .ok (.iaload, 1) := by decide +kernel
theorem dL_law_1057 : decode cL_law 1057 = .ok (.invokevirtual 93, 3) := by decide +kernel
theorem dL_law_1060 : decode cL_law 1060 = .ok (.aload_n 2, 1) := by decide +kernel
theorem dL_law_1061 : decode cL_law 1061 = .ok (.aload_n 0, 1) := by decide +kernel
theorem dL_law_1062 : decode cL_law 1062 = .ok (.iload 4, 2) := by decide +kernel
theorem dL_law_1064 : decode cL_law 1064 = .ok (.iconst 1, 1) := by decide +kernel
theorem dL_law_1065 : decode cL_law 1065 = .ok (.iadd, 1) := by decide +kernel
theorem dL_law_1066 : decode cL_law 1066 = .ok (.iaload, 1) := by decide +kernel
theorem dL_law_1067 : decode cL_law 1067 = .ok (.aload_n 0, 1) := by decide +kernel
theorem dL_law_1068 : decode cL_law 1068 = .ok (.iload 4, 2) := by decide +kernel
theorem dL_law_1070 : decode cL_law 1070 = .ok (.iconst 2, 1) := by decide +kernel
theorem dL_law_1071 : decode cL_law 1071 = .ok (.iadd, 1) := by decide +kernel
theorem dL_law_1072 : decode cL_law 1072 = .ok (.iaload, 1) := by decide +kernel
theorem dL_law_1073 : decode cL_law 1073 = .ok (.invokevirtual 96, 3) := by decide +kernel
theorem dL_law_1076 : decode cL_law 1076 = .ok (.if_icmp .eq 527, 3) := by decide +kernel
theorem dL_law_1079 : decode cL_law 1079 = .ok (.iconst 0, 1) := by decide +kernel
theorem dL_law_1080 : decode cL_law 1080 = .ok (.ireturn, 1) := by decide +kernel
theorem dL_law_1081 : decode cL_law 1081 = .ok (.aload_n 1, 1) := by decide +kernel
theorem dL_law_1082 : decode cL_law 1082 = .ok (.aload_n 0, 1) := by decide +kernel
theorem dL_law_1083 : decode cL_law 1083 = .ok (.iload 4, 2) := by decide +kernel
theorem dL_law_1085 : decode cL_law 1085 = .ok (.iconst 1, 1) := by decide +kernel
theorem dL_law_1086 : decode cL_law 1086 = .ok (.iadd, 1) := by decide +kernel
theorem dL_law_1087 : decode cL_law 1087 = .ok (.iaload, 1) := by decide +kernel
theorem dL_law_1088 : decode cL_law 1088 = .ok (.aload_n 0, 1) := by decide +kernel
theorem dL_law_1089 : decode cL_law 1089 = .ok (.iload 4, 2) := by decide +kernel
theorem dL_law_1091 : decode cL_law 1091 = .ok (.iconst 2, 1) := by decide +kernel
theorem dL_law_1092 : decode cL_law 1092 = .ok (.iadd, 1) := by decide +kernel
theorem dL_law_1093 : decode cL_law 1093 = .ok (.iaload, 1) := by decide +kernel
theorem dL_law_1094 : decode cL_law 1094 = .ok (.aload_n 0, 1) := by decide +kernel
theorem dL_law_1095 : decode cL_law 1095 = .ok (.iload 4, 2) := by decide +kernel
theorem dL_law_1097 : decode cL_law 1097 = .ok (.iconst 3, 1) := by decide +kernel
theorem dL_law_1098 : decode cL_law 1098 = .ok (.iadd, 1) := by decide +kernel
theorem dL_law_1099 : decode cL_law 1099 = .ok (.iaload, 1) := by decide +kernel
theorem dL_law_1100 : decode cL_law 1100 = .ok (.invokevirtual 97, 3) := by decide +kernel
theorem dL_law_1103 : decode cL_law 1103 = .ok (.aload_n 2, 1) := by decide +kernel
theorem dL_law_1104 : decode cL_law 1104 = .ok (.aload_n 0, 1) := by decide +kernel
theorem dL_law_1105 : decode cL_law 1105 = .ok (.iload 4, 2) := by decide +kernel
theorem dL_law_1107 : decode cL_law 1107 = .ok (.iconst 1, 1) := by decide +kernel
theorem dL_law_1108 : decode cL_law 1108 = .ok (.iadd, 1) := by decide +kernel
theorem dL_law_1109 : decode cL_law 1109 = .ok (.iaload, 1) := by decide +kernel
theorem dL_law_1110 : decode cL_law 1110 = .ok (.aload_n 0, 1) := by decide +kernel
theorem dL_law_1111 : decode cL_law 1111 = .ok (.iload 4, 2) := by decide +kernel
theorem dL_law_1113 : decode cL_law 1113 = .ok (.iconst 2, 1) := by decide +kernel
theorem dL_law_1114 : decode cL_law 1114 = .ok (.iadd, 1) := by decide +kernel
theorem dL_law_1115 : decode cL_law 1115 = .ok (.iaload, 1) := by decide +kernel
theorem dL_law_1116 : decode cL_law 1116 = .ok (.aload_n 0, 1) := by decide +kernel
theorem dL_law_1117 : decode cL_law 1117 = .ok (.iload 4, 2) := by decide +kernel
theorem dL_law_1119 : decode cL_law 1119 = .ok (.iconst 3, 1) := by decide +kernel
theorem dL_law_1120 : decode cL_law 1120 = .ok (.iadd, 1) := by decide +kernel
theorem dL_law_1121 : decode cL_law 1121 = .ok (.iaload, 1) := by decide +kernel
theorem dL_law_1122 : decode cL_law 1122 = .ok (.invokevirtual 100, 3) := by decide +kernel
theorem dL_law_1125 : decode cL_law 1125 = .ok (.if_icmp .eq 478, 3) := by decide +kernel
theorem dL_law_1128 : decode cL_law 1128 = .ok (.iconst 0, 1) := by decide +kernel
theorem dL_law_1129 : decode cL_law 1129 = .ok (.ireturn, 1) := by decide +kernel
theorem dL_law_1130 : decode cL_law 1130 = .ok (.aload_n 1, 1) := by decide +kernel
theorem dL_law_1131 : decode cL_law 1131 = .ok (.aload_n 0, 1) := by decide +kernel
theorem dL_law_1132 : decode cL_law 1132 = .ok (.iload 4, 2) := by decide +kernel
theorem dL_law_1134 : decode cL_law 1134 = .ok (.iconst 1, 1) := by decide +kernel
theorem dL_law_1135 : decode cL_law 1135 = .ok (.iadd, 1) := by decide +kernel
theorem dL_law_1136 : decode cL_law 1136 = .ok (.iaload, 1) := by decide +kernel
theorem dL_law_1137 : decode cL_law 1137 = .ok (.aload_n 0, 1) := by decide +kernel
theorem dL_law_1138 : decode cL_law 1138 = .ok (.iload 4, 2) := by decide +kernel
theorem dL_law_1140 : decode cL_law 1140 = .ok (.iconst 2, 1) := by decide +kernel
theorem dL_law_1141 : decode cL_law 1141 = .ok (.iadd, 1) := by decide +kernel
theorem dL_law_1142 : decode cL_law 1142 = .ok (.iaload, 1) := by decide +kernel
theorem dL_law_1143 : decode cL_law 1143 = .ok (.aload_n 0, 1) := by decide +kernel
theorem dL_law_1144 : decode cL_law 1144 = .ok (.iload 4, 2) := by decide +kernel
theorem dL_law_1146 : decode cL_law 1146 = .ok (.iconst 3, 1) := by decide +kernel
theorem dL_law_1147 : decode cL_law 1147 = .ok (.iadd, 1) := by decide +kernel
theorem dL_law_1148 : decode cL_law 1148 = .ok (.iaload, 1) := by decide +kernel
theorem dL_law_1149 : decode cL_law 1149 = .ok (.invokevirtual 101, 3) := by decide +kernel
theorem dL_law_1152 : decode cL_law 1152 = .ok (.aload_n 2, 1) := by decide +kernel
theorem dL_law_1153 : decode cL_law 1153 = .ok (.aload_n 0, 1) := by decide +kernel
theorem dL_law_1154 : decode cL_law 1154 = .ok (.iload 4, 2) := by decide +kernel
theorem dL_law_1156 : decode cL_law 1156 = .ok (.iconst 1, 1) := by decide +kernel
theorem dL_law_1157 : decode cL_law 1157 = .ok (.iadd, 1) := by decide +kernel
theorem dL_law_1158 : decode cL_law 1158 = .ok (.iaload, 1) := by decide +kernel
theorem dL_law_1159 : decode cL_law 1159 = .ok (.aload_n 0, 1) := by decide +kernel
theorem dL_law_1160 : decode cL_law 1160 = .ok (.iload 4, 2) := by decide +kernel
theorem dL_law_1162 : decode cL_law 1162 = .ok (.iconst 2, 1) := by decide +kernel
theorem dL_law_1163 : decode cL_law 1163 = .ok (.iadd, 1) := by decide +kernel
theorem dL_law_1164 : decode cL_law 1164 = .ok (.iaload, 1) := by decide +kernel
theorem dL_law_1165 : decode cL_law 1165 = .ok (.aload_n 0, 1) := by decide +kernel
theorem dL_law_1166 : decode cL_law 1166 = .ok (.iload 4, 2) := by decide +kernel
theorem dL_law_1168 : decode cL_law 1168 = .ok (.iconst 3, 1) := by decide +kernel
theorem dL_law_1169 : decode cL_law 1169 = .ok (.iadd, 1) := by decide +kernel
theorem dL_law_1170 : decode cL_law 1170 = .ok (.iaload, 1) := by decide +kernel
theorem dL_law_1171 : decode cL_law 1171 = .ok (.invokevirtual 104, 3) := by decide +kernel
theorem dL_law_1174 : decode cL_law 1174 = .ok (.if_icmp .eq 429, 3) := by decide +kernel
theorem dL_law_1177 : decode cL_law 1177 = .ok (.iconst 0, 1) := by decide +kernel
theorem dL_law_1178 : decode cL_law 1178 = .ok (.ireturn, 1) := by decide +kernel
theorem dL_law_1179 : decode cL_law 1179 = .ok (.aload_n 1, 1) := by decide +kernel
theorem dL_law_1180 : decode cL_law 1180 = .ok (.aload_n 0, 1) := by decide +kernel
theorem dL_law_1181 : decode cL_law 1181 = .ok (.iload 4, 2) := by decide +kernel
theorem dL_law_1183 : decode cL_law 1183 = .ok (.iconst 1, 1) := by decide +kernel
theorem dL_law_1184 : decode cL_law 1184 = .ok (.iadd, 1) := by decide +kernel
theorem dL_law_1185 : decode cL_law 1185 = .ok (.iaload, 1) := by decide +kernel
theorem dL_law_1186 : decode cL_law 1186 = .ok (.aload_n 0, 1) := by decide +kernel
theorem dL_law_1187 : decode cL_law 1187 = .ok (.iload 4, 2) := by decide +kernel
theorem dL_law_1189 : decode cL_law 1189 = .ok (.iconst 2, 1) := by decide +kernel
theorem dL_law_1190 : decode cL_law 1190 = .ok (.iadd, 1) := by decide +kernel
theorem dL_law_1191 : decode cL_law 1191 = .ok (.iaload, 1) := by decide +kernel
theorem dL_law_1192 : decode cL_law 1192 = .ok (.aload_n 0, 1) := by decide +kernel
theorem dL_law_1193 : decode cL_law 1193 = .ok (.iload 4, 2) := by decide +kernel
theorem dL_law_1195 : decode cL_law 1195 = .ok (.iconst 3, 1) := by decide +kernel
theorem dL_law_1196 : decode cL_law 1196 = .ok (.iadd, 1) := by decide +kernel
theorem dL_law_1197 : decode cL_law 1197 = .ok (.iaload, 1) := by decide +kernel
theorem dL_law_1198 : decode cL_law 1198 = .ok (.aload_n 0, 1) := by decide +kernel
theorem dL_law_1199 : decode cL_law 1199 = .ok (.iload 4, 2) := by decide +kernel
theorem dL_law_1201 : decode cL_law 1201 = .ok (.iconst 4, 1) := by decide +kernel
theorem dL_law_1202 : decode cL_law 1202 = .ok (.iadd, 1) := by decide +kernel
theorem dL_law_1203 : decode cL_law 1203 = .ok (.iaload, 1) := by decide +kernel
theorem dL_law_1204 : decode cL_law 1204 = .ok (.invokevirtual 105, 3) := by decide +kernel
theorem dL_law_1207 : decode cL_law 1207 = .ok (.aload_n 2, 1) := by decide +kernel
theorem dL_law_1208 : decode cL_law 1208 = .ok (.aload_n 0, 1) := by decide +kernel
theorem dL_law_1209 : decode cL_law 1209 = .ok (.iload 4, 2) := by decide +kernel
theorem dL_law_1211 : decode cL_law 1211 = .ok (.iconst 1, 1) := by decide +kernel
theorem dL_law_1212 : decode cL_law 1212 = .ok (.iadd, 1) := by decide +kernel
theorem dL_law_1213 : decode cL_law 1213 = .ok (.iaload, 1) := by decide +kernel
theorem dL_law_1214 : decode cL_law 1214 = .ok (.aload_n 0, 1) := by decide +kernel
theorem dL_law_1215 : decode cL_law 1215 = .ok (.iload 4, 2) := by decide +kernel
theorem dL_law_1217 : decode cL_law 1217 = .ok (.iconst 2, 1) := by decide +kernel
theorem dL_law_1218 : decode cL_law 1218 = .ok (.iadd, 1) := by decide +kernel
theorem dL_law_1219 : decode cL_law 1219 = .ok (.iaload, 1) := by decide +kernel
theorem dL_law_1220 : decode cL_law 1220 = .ok (.aload_n 0, 1) := by decide +kernel
theorem dL_law_1221 : decode cL_law 1221 = .ok (.iload 4, 2) := by decide +kernel
theorem dL_law_1223 : decode cL_law 1223 = .ok (.iconst 3, 1) := by decide +kernel
theorem dL_law_1224 : decode cL_law 1224 = .ok (.iadd, 1) := by decide +kernel
theorem dL_law_1225 : decode cL_law 1225 = .ok (.iaload, 1) := by decide +kernel
theorem dL_law_1226 : decode cL_law 1226 = .ok (.aload_n 0, 1) := by decide +kernel
theorem dL_law_1227 : decode cL_law 1227 = .ok (.iload 4, 2) := by decide +kernel
theorem dL_law_1229 : decode cL_law 1229 = .ok (.iconst 4, 1) := by decide +kernel
theorem dL_law_1230 : decode cL_law 1230 = .ok (.iadd, 1) := by decide +kernel
theorem dL_law_1231 : decode cL_law 1231 = .ok (.iaload, 1) := by decide +kernel
theorem dL_law_1232 : decode cL_law 1232 = .ok (.invokevirtual 108, 3) := by decide +kernel
theorem dL_law_1235 : decode cL_law 1235 = .ok (.if_icmp .eq 368, 3) := by decide +kernel
theorem dL_law_1238 : decode cL_law 1238 = .ok (.iconst 0, 1) := by decide +kernel
theorem dL_law_1239 : decode cL_law 1239 = .ok (.ireturn, 1) := by decide +kernel
theorem dL_law_1240 : decode cL_law 1240 = .ok (.aload_n 1, 1) := by decide +kernel
theorem dL_law_1241 : decode cL_law 1241 = .ok (.aload_n 0, 1) := by decide +kernel
theorem dL_law_1242 : decode cL_law 1242 = .ok (.iload 4, 2) := by decide +kernel
theorem dL_law_1244 : decode cL_law 1244 = .ok (.iconst 1, 1) := by decide +kernel
theorem dL_law_1245 : decode cL_law 1245 = .ok (.iadd, 1) := by decide +kernel
theorem dL_law_1246 : decode cL_law 1246 = .ok (.iaload, 1) := by decide +kernel
theorem dL_law_1247 : decode cL_law 1247 = .ok (.aload_n 0, 1) := by decide +kernel
theorem dL_law_1248 : decode cL_law 1248 = .ok (.iload 4, 2) := by decide +kernel
theorem dL_law_1250 : decode cL_law 1250 = .ok (.iconst 2, 1) := by decide +kernel
theorem dL_law_1251 : decode cL_law 1251 = .ok (.iadd, 1) := by decide +kernel
theorem dL_law_1252 : decode cL_law 1252 = .ok (.iaload, 1) := by decide +kernel
theorem dL_law_1253 : decode cL_law 1253 = .ok (.invokevirtual 109, 3) := by decide +kernel
theorem dL_law_1256 : decode cL_law 1256 = .ok (.aload_n 2, 1) := by decide +kernel
theorem dL_law_1257 : decode cL_law 1257 = .ok (.aload_n 0, 1) := by decide +kernel
theorem dL_law_1258 : decode cL_law 1258 = .ok (.iload 4, 2) := by decide +kernel
theorem dL_law_1260 : decode cL_law 1260 = .ok (.iconst 1, 1) := by decide +kernel
theorem dL_law_1261 : decode cL_law 1261 = .ok (.iadd, 1) := by decide +kernel
theorem dL_law_1262 : decode cL_law 1262 = .ok (.iaload, 1) := by decide +kernel
theorem dL_law_1263 : decode cL_law 1263 = .ok (.aload_n 0, 1) := by decide +kernel
theorem dL_law_1264 : decode cL_law 1264 = .ok (.iload 4, 2) := by decide +kernel
theorem dL_law_1266 : decode cL_law 1266 = .ok (.iconst 2, 1) := by decide +kernel
theorem dL_law_1267 : decode cL_law 1267 = .ok (.iadd, 1) := by decide +kernel
theorem dL_law_1268 : decode cL_law 1268 = .ok (.iaload, 1) := by decide +kernel
theorem dL_law_1269 : decode cL_law 1269 = .ok (.invokevirtual 112, 3) := by decide +kernel
theorem dL_law_1272 : decode cL_law 1272 = .ok (.if_icmp .eq 331, 3) := by decide +kernel
theorem dL_law_1275 : decode cL_law 1275 = .ok (.iconst 0, 1) := by decide +kernel
theorem dL_law_1276 : decode cL_law 1276 = .ok (.ireturn, 1) := by decide +kernel
theorem dL_law_1277 : decode cL_law 1277 = .ok (.aload_n 1, 1) := by decide +kernel
theorem dL_law_1278 : decode cL_law 1278 = .ok (.invokevirtual 113, 3) := by decide +kernel
theorem dL_law_1281 : decode cL_law 1281 = .ok (.aload_n 2, 1) := by decide +kernel
theorem dL_law_1282 : decode cL_law 1282 = .ok (.invokevirtual 117, 3) := by decide +kernel
theorem dL_law_1285 : decode cL_law 1285 = .ok (.if_icmp .eq 318, 3) := by decide +kernel
theorem dL_law_1288 : decode cL_law 1288 = .ok (.iconst 0, 1) := by decide +kernel
theorem dL_law_1289 : decode cL_law 1289 = .ok (.ireturn, 1) := by decide +kernel
theorem dL_law_1290 : decode cL_law 1290 = .ok (.aload_n 1, 1) := by decide +kernel
theorem dL_law_1291 : decode cL_law 1291 = .ok (.aload_n 0, 1) := by decide +kernel
theorem dL_law_1292 : decode cL_law 1292 = .ok (.iload 4, 2) := by decide +kernel
theorem dL_law_1294 : decode cL_law 1294 = .ok (.iconst 1, 1) := by decide +kernel
theorem dL_law_1295 : decode cL_law 1295 = .ok (.iadd, 1) := by decide +kernel
theorem dL_law_1296 : decode cL_law 1296 = .ok (.iaload, 1) := by decide +kernel
theorem dL_law_1297 : decode cL_law 1297 = .ok (.invokevirtual 118, 3) := by decide +kernel
theorem dL_law_1300 : decode cL_law 1300 = .ok (.aload_n 2, 1) := by decide +kernel
theorem dL_law_1301 : decode cL_law 1301 = .ok (.aload_n 0, 1) := by decide +kernel
theorem dL_law_1302 : decode cL_law 1302 = .ok (.iload 4, 2) := by decide +kernel
theorem dL_law_1304 : decode cL_law 1304 = .ok (.iconst 1, 1) := by decide +kernel
theorem dL_law_1305 : decode cL_law 1305 = .ok (.iadd, 1) := by decide +kernel
theorem dL_law_1306 : decode cL_law 1306 = .ok (.iaload, 1) := by decide +kernel
theorem dL_law_1307 : decode cL_law 1307 = .ok (.invokevirtual 121, 3) := by decide +kernel
theorem dL_law_1310 : decode cL_law 1310 = .ok (.if_icmp .eq 293, 3) := by decide +kernel
theorem dL_law_1313 : decode cL_law 1313 = .ok (.iconst 0, 1) := by decide +kernel
theorem dL_law_1314 : decode cL_law 1314 = .ok (.ireturn, 1) := by decide +kernel
theorem dL_law_1315 : decode cL_law 1315 = .ok (.aload_n 1, 1) := by decide +kernel
theorem dL_law_1316 : decode cL_law 1316 = .ok (.aload_n 0, 1) := by decide +kernel
theorem dL_law_1317 : decode cL_law 1317 = .ok (.iload 4, 2) := by decide +kernel
theorem dL_law_1319 : decode cL_law 1319 = .ok (.iconst 1, 1) := by decide +kernel
theorem dL_law_1320 : decode cL_law 1320 = .ok (.iadd, 1) := by decide +kernel
theorem dL_law_1321 : decode cL_law 1321 = .ok (.iaload, 1) := by decide +kernel
theorem dL_law_1322 : decode cL_law 1322 = .ok (.aload_n 0, 1) := by decide +kernel
theorem dL_law_1323 : decode cL_law 1323 = .ok (.iload 4, 2) := by decide +kernel
theorem dL_law_1325 : decode cL_law 1325 = .ok (.iconst 2, 1) := by decide +kernel
theorem dL_law_1326 : decode cL_law 1326 = .ok (.iadd, 1) := by decide +kernel
theorem dL_law_1327 : decode cL_law 1327 = .ok (.iaload, 1) := by decide +kernel
theorem dL_law_1328 : decode cL_law 1328 = .ok (.aload_n 0, 1) := by decide +kernel
theorem dL_law_1329 : decode cL_law 1329 = .ok (.iload 4, 2) := by decide +kernel
theorem dL_law_1331 : decode cL_law 1331 = .ok (.iconst 3, 1) := by decide +kernel
theorem dL_law_1332 : decode cL_law 1332 = .ok (.iadd, 1) := by decide +kernel
theorem dL_law_1333 : decode cL_law 1333 = .ok (.iaload, 1) := by decide +kernel
theorem dL_law_1334 : decode cL_law 1334 = .ok (.invokevirtual 122, 3) := by decide +kernel
theorem dL_law_1337 : decode cL_law 1337 = .ok (.aload_n 2, 1) := by decide +kernel
theorem dL_law_1338 : decode cL_law 1338 = .ok (.aload_n 0, 1) := by decide +kernel
theorem dL_law_1339 : decode cL_law 1339 = .ok (.iload 4, 2) := by decide +kernel
theorem dL_law_1341 : decode cL_law 1341 = .ok (.iconst 1, 1) := by decide +kernel
theorem dL_law_1342 : decode cL_law 1342 = .ok (.iadd, 1) := by decide +kernel
theorem dL_law_1343 : decode cL_law 1343 = .ok (.iaload, 1) := by decide +kernel
theorem dL_law_1344 : decode cL_law 1344 = .ok (.aload_n 0, 1) := by decide +kernel
theorem dL_law_1345 : decode cL_law 1345 = .ok (.iload 4, 2) := by decide +kernel
theorem dL_law_1347 : decode cL_law 1347 = .ok (.iconst 2, 1) := by decide +kernel
theorem dL_law_1348 : decode cL_law 1348 = .ok (.iadd, 1) := by decide +kernel
theorem dL_law_1349 : decode cL_law 1349 = .ok (.iaload, 1) := by decide +kernel
theorem dL_law_1350 : decode cL_law 1350 = .ok (.aload_n 0, 1) := by decide +kernel
theorem dL_law_1351 : decode cL_law 1351 = .ok (.iload 4, 2) := by decide +kernel
theorem dL_law_1353 : decode cL_law 1353 = .ok (.iconst 3, 1) := by decide +kernel
theorem dL_law_1354 : decode cL_law 1354 = .ok (.iadd, 1) := by decide +kernel
theorem dL_law_1355 : decode cL_law 1355 = .ok (.iaload, 1) := by decide +kernel
theorem dL_law_1356 : decode cL_law 1356 = .ok (.invokevirtual 125, 3) := by decide +kernel
theorem dL_law_1359 : decode cL_law 1359 = .ok (.if_icmp .eq 244, 3) := by decide +kernel
theorem dL_law_1362 : decode cL_law 1362 = .ok (.iconst 0, 1) := by decide +kernel
theorem dL_law_1363 : decode cL_law 1363 = .ok (.ireturn, 1) := by decide +kernel
theorem dL_law_1364 : decode cL_law 1364 = .ok (.aload_n 1, 1) := by decide +kernel
theorem dL_law_1365 : decode cL_law 1365 = .ok (.aload_n 0, 1) := by decide +kernel
theorem dL_law_1366 : decode cL_law 1366 = .ok (.iload 4, 2) := by decide +kernel
theorem dL_law_1368 : decode cL_law 1368 = .ok (.iconst 1, 1) := by decide +kernel
theorem dL_law_1369 : decode cL_law 1369 = .ok (.iadd, 1) := by decide +kernel
theorem dL_law_1370 : decode cL_law 1370 = .ok (.iaload, 1) := by decide +kernel
theorem dL_law_1371 : decode cL_law 1371 = .ok (.aload_n 0, 1) := by decide +kernel
theorem dL_law_1372 : decode cL_law 1372 = .ok (.iload 4, 2) := by decide +kernel
theorem dL_law_1374 : decode cL_law 1374 = .ok (.iconst 2, 1) := by decide +kernel
theorem dL_law_1375 : decode cL_law 1375 = .ok (.iadd, 1) := by decide +kernel
theorem dL_law_1376 : decode cL_law 1376 = .ok (.iaload, 1) := by decide +kernel
theorem dL_law_1377 : decode cL_law 1377 = .ok (.aload_n 0, 1) := by decide +kernel
theorem dL_law_1378 : decode cL_law 1378 = .ok (.iload 4, 2) := by decide +kernel
theorem dL_law_1380 : decode cL_law 1380 = .ok (.iconst 3, 1) := by decide +kernel
theorem dL_law_1381 : decode cL_law 1381 = .ok (.iadd, 1) := by decide +kernel
theorem dL_law_1382 : decode cL_law 1382 = .ok (.iaload, 1) := by decide +kernel
theorem dL_law_1383 : decode cL_law 1383 = .ok (.invokevirtual 126, 3) := by decide +kernel
theorem dL_law_1386 : decode cL_law 1386 = .ok (.aload_n 2, 1) := by decide +kernel
theorem dL_law_1387 : decode cL_law 1387 = .ok (.aload_n 0, 1) := by decide +kernel
theorem dL_law_1388 : decode cL_law 1388 = .ok (.iload 4, 2) := by decide +kernel
theorem dL_law_1390 : decode cL_law 1390 = .ok (.iconst 1, 1) := by decide +kernel
theorem dL_law_1391 : decode cL_law 1391 = .ok (.iadd, 1) := by decide +kernel
theorem dL_law_1392 : decode cL_law 1392 = .ok (.iaload, 1) := by decide +kernel
theorem dL_law_1393 : decode cL_law 1393 = .ok (.aload_n 0, 1) := by decide +kernel
theorem dL_law_1394 : decode cL_law 1394 = .ok (.iload 4, 2) := by decide +kernel
theorem dL_law_1396 : decode cL_law 1396 = .ok (.iconst 2, 1) := by decide +kernel
theorem dL_law_1397 : decode cL_law 1397 = .ok (.iadd, 1) := by decide +kernel
theorem dL_law_1398 : decode cL_law 1398 = .ok (.iaload, 1) := by decide +kernel
theorem dL_law_1399 : decode cL_law 1399 = .ok (.aload_n 0, 1) := by decide +kernel
theorem dL_law_1400 : decode cL_law 1400 = .ok (.iload 4, 2) := by decide +kernel
theorem dL_law_1402 : decode cL_law 1402 = .ok (.iconst 3, 1) := by decide +kernel
theorem dL_law_1403 : decode cL_law 1403 = .ok (.iadd, 1) := by decide +kernel
theorem dL_law_1404 : decode cL_law 1404 = .ok (.iaload, 1) := by decide +kernel
theorem dL_law_1405 : decode cL_law 1405 = .ok (.invokevirtual 129, 3) := by decide +kernel
theorem dL_law_1408 : decode cL_law 1408 = .ok (.if_icmp .eq 195, 3) := by decide +kernel
theorem dL_law_1411 : decode cL_law 1411 = .ok (.iconst 0, 1) := by decide +kernel
theorem dL_law_1412 : decode cL_law 1412 = .ok (.ireturn, 1) := by decide +kernel
theorem dL_law_1413 : decode cL_law 1413 = .ok (.aload_n 1, 1) := by decide +kernel
theorem dL_law_1414 : decode cL_law 1414 = .ok (.aload_n 0, 1) := by decide +kernel
theorem dL_law_1415 : decode cL_law 1415 = .ok (.iload 4, 2) := by decide +kernel
theorem dL_law_1417 : decode cL_law 1417 = .ok (.iconst 1, 1) := by decide +kernel
theorem dL_law_1418 : decode cL_law 1418 = .ok (.iadd, 1) := by decide +kernel
theorem dL_law_1419 : decode cL_law 1419 = .ok (.iaload, 1) := by decide +kernel
theorem dL_law_1420 : decode cL_law 1420 = .ok (.aload_n 0, 1) := by decide +kernel
theorem dL_law_1421 : decode cL_law 1421 = .ok (.iload 4, 2) := by decide +kernel
theorem dL_law_1423 : decode cL_law 1423 = .ok (.iconst 2, 1) := by decide +kernel
theorem dL_law_1424 : decode cL_law 1424 = .ok (.iadd, 1) := by decide +kernel
theorem dL_law_1425 : decode cL_law 1425 = .ok (.iaload, 1) := by decide +kernel
theorem dL_law_1426 : decode cL_law 1426 = .ok (.aload_n 3, 1) := by decide +kernel
theorem dL_law_1427 : decode cL_law 1427 = .ok (.invokestatic 130, 3) := by decide +kernel
theorem dL_law_1430 : decode cL_law 1430 = .ok (.istore 5, 2) := by decide +kernel
theorem dL_law_1432 : decode cL_law 1432 = .ok (.aload_n 2, 1) := by decide +kernel
theorem dL_law_1433 : decode cL_law 1433 = .ok (.aload_n 0, 1) := by decide +kernel
theorem dL_law_1434 : decode cL_law 1434 = .ok (.iload 4, 2) := by decide +kernel
theorem dL_law_1436 : decode cL_law 1436 = .ok (.iconst 1, 1) := by decide +kernel
theorem dL_law_1437 : decode cL_law 1437 = .ok (.iadd, 1) := by decide +kernel
theorem dL_law_1438 : decode cL_law 1438 = .ok (.iaload, 1) := by decide +kernel
theorem dL_law_1439 : decode cL_law 1439 = .ok (.aload_n 0, 1) := by decide +kernel
theorem dL_law_1440 : decode cL_law 1440 = .ok (.iload 4, 2) := by decide +kernel
theorem dL_law_1442 : decode cL_law 1442 = .ok (.iconst 2, 1) := by decide +kernel
theorem dL_law_1443 : decode cL_law 1443 = .ok (.iadd, 1) := by decide +kernel
theorem dL_law_1444 : decode cL_law 1444 = .ok (.iaload, 1) := by decide +kernel
theorem dL_law_1445 : decode cL_law 1445 = .ok (.invokevirtual 135, 3) := by decide +kernel
theorem dL_law_1448 : decode cL_law 1448 = .ok (.lstore 6, 2) := by decide +kernel
theorem dL_law_1450 : decode cL_law 1450 = .ok (.aload_n 2, 1) := by decide +kernel
theorem dL_law_1451 : decode cL_law 1451 = .ok (.invokevirtual 136, 3) := by decide +kernel
theorem dL_law_1454 : decode cL_law 1454 = .ok (.iload 5, 2) := by decide +kernel
theorem dL_law_1456 : decode cL_law 1456 = .ok (.if_icmp .eq 5, 3) := by decide +kernel
theorem dL_law_1459 : decode cL_law 1459 = .ok (.iconst 0, 1) := by decide +kernel
theorem dL_law_1460 : decode cL_law 1460 = .ok (.ireturn, 1) := by decide +kernel
theorem dL_law_1461 : decode cL_law 1461 = .ok (.iload 5, 2) := by decide +kernel
theorem dL_law_1463 : decode cL_law 1463 = .ok (.ifCond .ne 14, 3) := by decide +kernel
theorem dL_law_1466 : decode cL_law 1466 = .ok (.aload_n 3, 1) := by decide +kernel
theorem dL_law_1467 : decode cL_law 1467 = .ok (.iconst 0, 1) := by decide +kernel
theorem dL_law_1468 : decode cL_law 1468 = .ok (.laload, 1) := by decide +kernel
theorem dL_law_1469 : decode cL_law 1469 = .ok (.lload 6, 2) := by decide +kernel
theorem dL_law_1471 : decode cL_law 1471 = .ok (.lcmp, 1) := by decide +kernel
theorem dL_law_1472 : decode cL_law 1472 = .ok (.ifCond .eq 5, 3) := by decide +kernel
theorem dL_law_1475 : decode cL_law 1475 = .ok (.iconst 0, 1) := by decide +kernel
theorem dL_law_1476 : decode cL_law 1476 = .ok (.ireturn, 1) := by decide +kernel
theorem dL_law_1477 : decode cL_law 1477 = .ok (.goto 126, 3) := by decide +kernel
theorem dL_law_1480 : decode cL_law 1480 = .ok (.aload_n 1, 1) := by decide +kernel
theorem dL_law_1481 : decode cL_law 1481 = .ok (.aload_n 0, 1) := by decide +kernel
theorem dL_law_1482 : decode cL_law 1482 = .ok (.iload 4, 2) := by decide +kernel
theorem dL_law_1484 : decode cL_law 1484 = .ok (.iconst 1, 1) := by decide +kernel
theorem dL_law_1485 : decode cL_law 1485 = .ok (.iadd, 1) := by decide +kernel
theorem dL_law_1486 : decode cL_law 1486 = .ok (.iaload, 1) := by decide +kernel
theorem dL_law_1487 : decode cL_law 1487 = .ok (.aload_n 0, 1) := by decide +kernel
theorem dL_law_1488 : decode cL_law 1488 = .ok (.iload 4, 2) := by decide +kernel
theorem dL_law_1490 : decode cL_law 1490 = .ok (.iconst 2, 1) := by decide +kernel
theorem dL_law_1491 : decode cL_law 1491 = .ok (.iadd, 1) := by decide +kernel
theorem dL_law_1492 : decode cL_law 1492 = .ok (.iaload, 1) := by decide +kernel
theorem dL_law_1493 : decode cL_law 1493 = .ok (.aload_n 0, 1) := by decide +kernel
theorem dL_law_1494 : decode cL_law 1494 = .ok (.iload 4, 2) := by decide +kernel
theorem dL_law_1496 : decode cL_law 1496 = .ok (.iconst 3, 1) := by decide +kernel
theorem dL_law_1497 : decode cL_law 1497 = .ok (.iadd, 1) := by decide +kernel
theorem dL_law_1498 : decode cL_law 1498 = .ok (.iaload, 1) := by decide +kernel
theorem dL_law_1499 : decode cL_law 1499 = .ok (.aload_n 0, 1) := by decide +kernel
theorem dL_law_1500 : decode cL_law 1500 = .ok (.iload 4, 2) := by decide +kernel
theorem dL_law_1502 : decode cL_law 1502 = .ok (.iconst 4, 1) := by decide +kernel
theorem dL_law_1503 : decode cL_law 1503 = .ok (.iadd, 1) := by decide +kernel
theorem dL_law_1504 : decode cL_law 1504 = .ok (.iaload, 1) := by decide +kernel
theorem dL_law_1505 : decode cL_law 1505 = .ok (.aload_n 0, 1) := by decide +kernel
theorem dL_law_1506 : decode cL_law 1506 = .ok (.iload 4, 2) := by decide +kernel
theorem dL_law_1508 : decode cL_law 1508 = .ok (.iconst 5, 1) := by decide +kernel
theorem dL_law_1509 : decode cL_law 1509 = .ok (.iadd, 1) := by decide +kernel
theorem dL_law_1510 : decode cL_law 1510 = .ok (.iaload, 1) := by decide +kernel
theorem dL_law_1511 : decode cL_law 1511 = .ok (.invokevirtual 139, 3) := by decide +kernel
theorem dL_law_1514 : decode cL_law 1514 = .ok (.aload_n 2, 1) := by decide +kernel
theorem dL_law_1515 : decode cL_law 1515 = .ok (.aload_n 0, 1) := by decide +kernel
theorem dL_law_1516 : decode cL_law 1516 = .ok (.iload 4, 2) := by decide +kernel
theorem dL_law_1518 : decode cL_law 1518 = .ok (.iconst 1, 1) := by decide +kernel
theorem dL_law_1519 : decode cL_law 1519 = .ok (.iadd, 1) := by decide +kernel
theorem dL_law_1520 : decode cL_law 1520 = .ok (.iaload, 1) := by decide +kernel
theorem dL_law_1521 : decode cL_law 1521 = .ok (.aload_n 0, 1) := by decide +kernel
theorem dL_law_1522 : decode cL_law 1522 = .ok (.iload 4, 2) := by decide +kernel
theorem dL_law_1524 : decode cL_law 1524 = .ok (.iconst 2, 1) := by decide +kernel
theorem dL_law_1525 : decode cL_law 1525 = .ok (.iadd, 1) := by decide +kernel
theorem dL_law_1526 : decode cL_law 1526 = .ok (.iaload, 1) := by decide +kernel
theorem dL_law_1527 : decode cL_law 1527 = .ok (.aload_n 0, 1) := by decide +kernel
theorem dL_law_1528 : decode cL_law 1528 = .ok (.iload 4, 2) := by decide +kernel
theorem dL_law_1530 : decode cL_law 1530 = .ok (.iconst 3, 1) := by decide +kernel
theorem dL_law_1531 : decode cL_law 1531 = .ok (.iadd, 1) := by decide +kernel
theorem dL_law_1532 : decode cL_law 1532 = .ok (.iaload, 1) := by decide +kernel
theorem dL_law_1533 : decode cL_law 1533 = .ok (.aload_n 0, 1) := by decide +kernel
theorem dL_law_1534 : decode cL_law 1534 = .ok (.iload 4, 2) := by decide +kernel
theorem dL_law_1536 : decode cL_law 1536 = .ok (.iconst 4, 1) := by decide +kernel
theorem dL_law_1537 : decode cL_law 1537 = .ok (.iadd, 1) := by decide +kernel
theorem dL_law_1538 : decode cL_law 1538 = .ok (.iaload, 1) := by decide +kernel
theorem dL_law_1539 : decode cL_law 1539 = .ok (.aload_n 0, 1) := by decide +kernel
theorem dL_law_1540 : decode cL_law 1540 = .ok (.iload 4, 2) := by decide +kernel
theorem dL_law_1542 : decode cL_law 1542 = .ok (.iconst 5, 1) := by decide +kernel
theorem dL_law_1543 : decode cL_law 1543 = .ok (.iadd, 1) := by decide +kernel
theorem dL_law_1544 : decode cL_law 1544 = .ok (.iaload, 1) := by decide +kernel
theorem dL_law_1545 : decode cL_law 1545 = .ok (.invokevirtual 142, 3) := by decide +kernel
theorem dL_law_1548 : decode cL_law 1548 = .ok (.if_icmp .eq 55, 3) := by decide +kernel
theorem dL_law_1551 : decode cL_law 1551 = .ok (.iconst 0, 1) := by decide +kernel
theorem dL_law_1552 : decode cL_law 1552 = .ok (.ireturn, 1) := by decide +kernel
theorem dL_law_1553 : decode cL_law 1553 = .ok (.aload_n 1, 1) := by decide +kernel
theorem dL_law_1554 : decode cL_law 1554 = .ok (.aload_n 0, 1) := by decide +kernel
theorem dL_law_1555 : decode cL_law 1555 = .ok (.iload 4, 2) := by decide +kernel
theorem dL_law_1557 : decode cL_law 1557 = .ok (.iconst 1, 1) := by decide +kernel
theorem dL_law_1558 : decode cL_law 1558 = .ok (.iadd, 1) := by decide +kernel
theorem dL_law_1559 : decode cL_law 1559 = .ok (.iaload, 1) := by decide +kernel
theorem dL_law_1560 : decode cL_law 1560 = .ok (.invokevirtual 143, 3) := by decide +kernel
theorem dL_law_1563 : decode cL_law 1563 = .ok (.aload_n 2, 1) := by decide +kernel
theorem dL_law_1564 : decode cL_law 1564 = .ok (.aload_n 0, 1) := by decide +kernel
theorem dL_law_1565 : decode cL_law 1565 = .ok (.iload 4, 2) := by decide +kernel
theorem dL_law_1567 : decode cL_law 1567 = .ok (.iconst 1, 1) := by decide +kernel
theorem dL_law_1568 : decode cL_law 1568 = .ok (.iadd, 1) := by decide +kernel
theorem dL_law_1569 : decode cL_law 1569 = .ok (.iaload, 1) := by decide +kernel
theorem dL_law_1570 : decode cL_law 1570 = .ok (.invokevirtual 146, 3) := by decide +kernel
theorem dL_law_1573 : decode cL_law 1573 = .ok (.if_icmp .eq 30, 3) := by decide +kernel
theorem dL_law_1576 : decode cL_law 1576 = .ok (.iconst 0, 1) := by decide +kernel
theorem dL_law_1577 : decode cL_law 1577 = .ok (.ireturn, 1) := by decide +kernel
theorem dL_law_1578 : decode cL_law 1578 = .ok (.aload_n 1, 1) := by decide +kernel
theorem dL_law_1579 : decode cL_law 1579 = .ok (.aload_n 0, 1) := by decide +kernel
theorem dL_law_1580 : decode cL_law 1580 = .ok (.iload 4, 2) := by decide +kernel
theorem dL_law_1582 : decode cL_law 1582 = .ok (.iconst 1, 1) := by decide +kernel
theorem dL_law_1583 : decode cL_law 1583 = .ok (.iadd, 1) := by decide +kernel
theorem dL_law_1584 : decode cL_law 1584 = .ok (.iaload, 1) := by decide +kernel
theorem dL_law_1585 : decode cL_law 1585 = .ok (.invokevirtual 147, 3) := by decide +kernel
theorem dL_law_1588 : decode cL_law 1588 = .ok (.aload_n 2, 1) := by decide +kernel
theorem dL_law_1589 : decode cL_law 1589 = .ok (.aload_n 0, 1) := by decide +kernel
theorem dL_law_1590 : decode cL_law 1590 = .ok (.iload 4, 2) := by decide +kernel
theorem dL_law_1592 : decode cL_law 1592 = .ok (.iconst 1, 1) := by decide +kernel
theorem dL_law_1593 : decode cL_law 1593 = .ok (.iadd, 1) := by decide +kernel
theorem dL_law_1594 : decode cL_law 1594 = .ok (.iaload, 1) := by decide +kernel
theorem dL_law_1595 : decode cL_law 1595 = .ok (.invokevirtual 150, 3) := by decide +kernel
theorem dL_law_1598 : decode cL_law 1598 = .ok (.if_icmp .eq 5, 3) := by decide +kernel
theorem dL_law_1601 : decode cL_law 1601 = .ok (.iconst 0, 1) := by decide +kernel
theorem dL_law_1602 : decode cL_law 1602 = .ok (.ireturn, 1) := by decide +kernel
theorem dL_law_1603 : decode cL_law 1603 = .ok (.iinc 4 6, 3) := by decide +kernel
theorem dL_law_1606 : decode cL_law 1606 = .ok (.goto (-1583), 3) := by decide +kernel
theorem dL_law_1609 : decode cL_law 1609 = .ok (.iconst 1, 1) := by decide +kernel
theorem dL_law_1610 : decode cL_law 1610 = .ok (.ireturn, 1) := by decide +kernel
abbrev vwCl : List vw_C := [(RJ0, TJ0, 4), (RJ4, TJ4, 4), (RX0, TX0, 6), (RX1, TX1, 6), (RX3, TX3, 6), (RX4, TX4, 2), (RX5, TX5, 6), (RX6, TX6, 6), (RX7, TX7, 6), (RX8, TX8, 3), (RX9, TX9, 6), (RX10, TX10, 6), (RX11, TX11, 16), (RX12, TX12, 28)]
